theorem vt1 {Z : Zt} {a : AV} {st : List AV} (h : ∀ v ∈ a :: st, vv Z v) : ∀ v ∈ st, vv Z v := fun v hv => h v (List.mem_cons_of_mem _ hv)
theorem vc1 {Z : Zt} {a : AV} {st : List AV} (ha : vv Z a) (h : ∀ v ∈ st, vv Z v) : ∀ v ∈ a :: st, vv Z v := fun v hv => (List.mem_cons.mp hv).elim (fun e => by rw [e]; exact ha) (h v)
theorem vh1 {Z : Zt} {a : AV} {st : List AV} (h : ∀ v ∈ a :: st, vv Z v) : vv Z a := h a List.mem_cons_self
theorem cat1 (E : En) {v : AV} (h : isLg (some v) = false) : (cv E v).category = 1 := (lv_cat (cv E v)).resolve_right (fun q => by rw [(cv_cat E v).mp q] at h; cases h)
theorem vset {Z : Zt} {ls : List (Option AV)} {k : Nat} {w : AV} (h : ∀ v, some v ∈ ls → vv Z v) (hw : vv Z w) : ∀ v, some v ∈ ls.set k (some w) → vv Z v := fun v hv => by
  rcases List.mem_or_eq_of_mem_set hv with h1 | h1
  · exact h v h1
  · cases h1
    exact hw
theorem vsetN {Z : Zt} {ls : List (Option AV)} {k : Nat} (h : ∀ v, some v ∈ ls → vv Z v) : ∀ v, some v ∈ ls.set k none → vv Z v := fun v hv => by
  rcases List.mem_or_eq_of_mem_set hv with h1 | h1
  · exact h v h1
  · cases h1
theorem hpS {ls : List (Option AV)} {k j : Nat} (e : j = k + 1) (h : isLg (ls.getD k none) = false) : ∀ q, q + 1 = j → isLg (ls.getD q none) = false := fun q hq => by
  have e2 : q = k := by omega
  rw [e2]
  exact h
/-- a branch at its place: where it goes, and the place behind it -/
abbrev Db (M : Mt) (pc : Nat) (i : Instr) (off : Int) (tgt pc2 : Nat) : Prop := decode M.2.1 pc = .ok (i, 3) ∧ pc + 3 = pc2 ∧ (pc : Int) + off = (tgt : Int)
section RULES
variable {l : Launch} {E : En} {d : Nat} {M : Mt} {Z0 : Zt} {pc pc2 tgt : Nat} {ls : List (Option AV)} {st : List AV} {I : It} {L : Lt} {R : Rt} {Z : Zt} {Q : Qt}
theorem aw_iadd {x y : Int32} (hd : Dc M pc (.iadd) 1 pc2) (k : AWq l E d M Z0 pc2 ls (vi (x + y) :: st) I L R Z Q) : AWq l E d M Z0 pc ls (vi y :: vi x :: st) I L R Z Q := by
  obtain ⟨hd, rfl⟩ := hd
  exact k.lift (fun v1 v2 => ⟨vc1 trivial (vt1 (vt1 v1)), v2⟩) (fun p e Rm s m args below meth c cells slots Qs F als H locs hl v1 hW hS kk => lv_iadd F.1 F.2.1 hd (kk als hl))
theorem aw_isub {x y : Int32} (hd : Dc M pc (.isub) 1 pc2) (k : AWq l E d M Z0 pc2 ls (vi (x - y) :: st) I L R Z Q) : AWq l E d M Z0 pc ls (vi y :: vi x :: st) I L R Z Q := by
  obtain ⟨hd, rfl⟩ := hd
  exact k.lift (fun v1 v2 => ⟨vc1 trivial (vt1 (vt1 v1)), v2⟩) (fun p e Rm s m args below meth c cells slots Qs F als H locs hl v1 hW hS kk => lv_isub F.1 F.2.1 hd (kk als hl))
theorem aw_imul {x y : Int32} (hd : Dc M pc (.imul) 1 pc2) (k : AWq l E d M Z0 pc2 ls (vi (x * y) :: st) I L R Z Q) : AWq l E d M Z0 pc ls (vi y :: vi x :: st) I L R Z Q := by
  obtain ⟨hd, rfl⟩ := hd
  exact k.lift (fun v1 v2 => ⟨vc1 trivial (vt1 (vt1 v1)), v2⟩) (fun p e Rm s m args below meth c cells slots Qs F als H locs hl v1 hW hS kk => lv_imul F.1 F.2.1 hd (kk als hl))
theorem aw_iand {x y : Int32} (hd : Dc M pc (.iand) 1 pc2) (k : AWq l E d M Z0 pc2 ls (vi (x &&& y) :: st) I L R Z Q) : AWq l E d M Z0 pc ls (vi y :: vi x :: st) I L R Z Q := by
  obtain ⟨hd, rfl⟩ := hd
  exact k.lift (fun v1 v2 => ⟨vc1 trivial (vt1 (vt1 v1)), v2⟩) (fun p e Rm s m args below meth c cells slots Qs F als H locs hl v1 hW hS kk => lv_iand F.1 F.2.1 hd (kk als hl))
theorem aw_ior {x y : Int32} (hd : Dc M pc (.ior) 1 pc2) (k : AWq l E d M Z0 pc2 ls (vi (x ||| y) :: st) I L R Z Q) : AWq l E d M Z0 pc ls (vi y :: vi x :: st) I L R Z Q := by
  obtain ⟨hd, rfl⟩ := hd
  exact k.lift (fun v1 v2 => ⟨vc1 trivial (vt1 (vt1 v1)), v2⟩) (fun p e Rm s m args below meth c cells slots Qs F als H locs hl v1 hW hS kk => lv_ior F.1 F.2.1 hd (kk als hl))
theorem aw_ixor {x y : Int32} (hd : Dc M pc (.ixor) 1 pc2) (k : AWq l E d M Z0 pc2 ls (vi (x ^^^ y) :: st) I L R Z Q) : AWq l E d M Z0 pc ls (vi y :: vi x :: st) I L R Z Q := by
  obtain ⟨hd, rfl⟩ := hd
  exact k.lift (fun v1 v2 => ⟨vc1 trivial (vt1 (vt1 v1)), v2⟩) (fun p e Rm s m args below meth c cells slots Qs F als H locs hl v1 hW hS kk => lv_ixor F.1 F.2.1 hd (kk als hl))
theorem aw_ishl {x y : Int32} (hd : Dc M pc (.ishl) 1 pc2) (k : AWq l E d M Z0 pc2 ls (vi (x <<< (y &&& 31)) :: st) I L R Z Q) : AWq l E d M Z0 pc ls (vi y :: vi x :: st) I L R Z Q := by
  obtain ⟨hd, rfl⟩ := hd
  exact k.lift (fun v1 v2 => ⟨vc1 trivial (vt1 (vt1 v1)), v2⟩) (fun p e Rm s m args below meth c cells slots Qs F als H locs hl v1 hW hS kk => lv_ishl F.1 F.2.1 hd (kk als hl))
theorem aw_ishr {x y : Int32} (hd : Dc M pc (.ishr) 1 pc2) (k : AWq l E d M Z0 pc2 ls (vi (x >>> (y &&& 31)) :: st) I L R Z Q) : AWq l E d M Z0 pc ls (vi y :: vi x :: st) I L R Z Q := by
  obtain ⟨hd, rfl⟩ := hd
  exact k.lift (fun v1 v2 => ⟨vc1 trivial (vt1 (vt1 v1)), v2⟩) (fun p e Rm s m args below meth c cells slots Qs F als H locs hl v1 hW hS kk => lv_ishr F.1 F.2.1 hd (kk als hl))
theorem aw_iushr {x y : Int32} (hd : Dc M pc (.iushr) 1 pc2) (k : AWq l E d M Z0 pc2 ls (vi (x.toUInt32 >>> (y.toUInt32 &&& Int32.toUInt32 31)).toInt32 :: st) I L R Z Q) : AWq l E d M Z0 pc ls (vi y :: vi x :: st) I L R Z Q := by
  obtain ⟨hd, rfl⟩ := hd
  exact k.lift (fun v1 v2 => ⟨vc1 trivial (vt1 (vt1 v1)), v2⟩) (fun p e Rm s m args below meth c cells slots Qs F als H locs hl v1 hW hS kk => lv_iushr F.1 F.2.1 hd rfl (kk als hl))
theorem aw_idiv {x y : Int32} (hd : Dc M pc (.idiv) 1 pc2) (hne : ¬ y = 0) (k : AWq l E d M Z0 pc2 ls (vi (x / y) :: st) I L R Z Q) : AWq l E d M Z0 pc ls (vi y :: vi x :: st) I L R Z Q := by
  obtain ⟨hd, rfl⟩ := hd
  exact k.lift (fun v1 v2 => ⟨vc1 trivial (vt1 (vt1 v1)), v2⟩) (fun p e Rm s m args below meth c cells slots Qs F als H locs hl v1 hW hS kk => lv_idiv F.1 F.2.1 hd hne (kk als hl))
theorem aw_irem {x y : Int32} (hd : Dc M pc (.irem) 1 pc2) (hne : ¬ y = 0) (k : AWq l E d M Z0 pc2 ls (vi (x - x / y * y) :: st) I L R Z Q) : AWq l E d M Z0 pc ls (vi y :: vi x :: st) I L R Z Q := by
  obtain ⟨hd, rfl⟩ := hd
  exact k.lift (fun v1 v2 => ⟨vc1 trivial (vt1 (vt1 v1)), v2⟩) (fun p e Rm s m args below meth c cells slots Qs F als H locs hl v1 hW hS kk => lv_irem F.1 F.2.1 hd hne (kk als hl))
theorem aw_ladd {x y : Int64} (hd : Dc M pc (.ladd) 1 pc2) (k : AWq l E d M Z0 pc2 ls (vl (x + y) :: st) I L R Z Q) : AWq l E d M Z0 pc ls (vl y :: vl x :: st) I L R Z Q := by
  obtain ⟨hd, rfl⟩ := hd
  exact k.lift (fun v1 v2 => ⟨vc1 trivial (vt1 (vt1 v1)), v2⟩) (fun p e Rm s m args below meth c cells slots Qs F als H locs hl v1 hW hS kk => lv_ladd F.1 F.2.1 hd (kk als hl))
theorem aw_lsub {x y : Int64} (hd : Dc M pc (.lsub) 1 pc2) (k : AWq l E d M Z0 pc2 ls (vl (x - y) :: st) I L R Z Q) : AWq l E d M Z0 pc ls (vl y :: vl x :: st) I L R Z Q := by
  obtain ⟨hd, rfl⟩ := hd
  exact k.lift (fun v1 v2 => ⟨vc1 trivial (vt1 (vt1 v1)), v2⟩) (fun p e Rm s m args below meth c cells slots Qs F als H locs hl v1 hW hS kk => lv_lsub F.1 F.2.1 hd (kk als hl))
theorem aw_lmul {x y : Int64} (hd : Dc M pc (.lmul) 1 pc2) (k : AWq l E d M Z0 pc2 ls (vl (x * y) :: st) I L R Z Q) : AWq l E d M Z0 pc ls (vl y :: vl x :: st) I L R Z Q := by
  obtain ⟨hd, rfl⟩ := hd
  exact k.lift (fun v1 v2 => ⟨vc1 trivial (vt1 (vt1 v1)), v2⟩) (fun p e Rm s m args below meth c cells slots Qs F als H locs hl v1 hW hS kk => lv_lmul F.1 F.2.1 hd (kk als hl))
theorem aw_ldiv {x y : Int64} (hd : Dc M pc (.ldiv) 1 pc2) (hne : ¬ y = 0) (k : AWq l E d M Z0 pc2 ls (vl (x / y) :: st) I L R Z Q) : AWq l E d M Z0 pc ls (vl y :: vl x :: st) I L R Z Q := by
  obtain ⟨hd, rfl⟩ := hd
  exact k.lift (fun v1 v2 => ⟨vc1 trivial (vt1 (vt1 v1)), v2⟩) (fun p e Rm s m args below meth c cells slots Qs F als H locs hl v1 hW hS kk => lv_ldiv F.1 F.2.1 hd hne (kk als hl))
theorem aw_lrem {x y : Int64} (hd : Dc M pc (.lrem) 1 pc2) (hne : ¬ y = 0) (k : AWq l E d M Z0 pc2 ls (vl (x - x / y * y) :: st) I L R Z Q) : AWq l E d M Z0 pc ls (vl y :: vl x :: st) I L R Z Q := by
  obtain ⟨hd, rfl⟩ := hd
  exact k.lift (fun v1 v2 => ⟨vc1 trivial (vt1 (vt1 v1)), v2⟩) (fun p e Rm s m args below meth c cells slots Qs F als H locs hl v1 hW hS kk => lv_lrem F.1 F.2.1 hd hne (kk als hl))
theorem aw_lcmp {x y : Int64} (hd : Dc M pc (.lcmp) 1 pc2) (k : AWq l E d M Z0 pc2 ls (vi (lg_cmp x y) :: st) I L R Z Q) : AWq l E d M Z0 pc ls (vl y :: vl x :: st) I L R Z Q := by
  obtain ⟨hd, rfl⟩ := hd
  exact k.lift (fun v1 v2 => ⟨vc1 trivial (vt1 (vt1 v1)), v2⟩) (fun p e Rm s m args below meth c cells slots Qs F als H locs hl v1 hW hS kk => W.lcmp F.1 F.2.1 hd (kk als hl))
theorem aw_ineg {x : Int32} (hd : Dc M pc (.ineg) 1 pc2) (k : AWq l E d M Z0 pc2 ls (vi (-x) :: st) I L R Z Q) : AWq l E d M Z0 pc ls (vi x :: st) I L R Z Q := by
  obtain ⟨hd, rfl⟩ := hd
  exact k.lift (fun v1 v2 => ⟨vc1 trivial (vt1 v1), v2⟩) (fun p e Rm s m args below meth c cells slots Qs F als H locs hl v1 hW hS kk => lv_ineg F.1 F.2.1 hd (kk als hl))
theorem aw_lneg {x : Int64} (hd : Dc M pc (.lneg) 1 pc2) (k : AWq l E d M Z0 pc2 ls (vl (-x) :: st) I L R Z Q) : AWq l E d M Z0 pc ls (vl x :: st) I L R Z Q := by
  obtain ⟨hd, rfl⟩ := hd
  exact k.lift (fun v1 v2 => ⟨vc1 trivial (vt1 v1), v2⟩) (fun p e Rm s m args below meth c cells slots Qs F als H locs hl v1 hW hS kk => lv_lneg F.1 F.2.1 hd (kk als hl))
theorem aw_i2l {x : Int32} (hd : Dc M pc (.i2l) 1 pc2) (k : AWq l E d M Z0 pc2 ls (vl (x.toInt64) :: st) I L R Z Q) : AWq l E d M Z0 pc ls (vi x :: st) I L R Z Q := by
  obtain ⟨hd, rfl⟩ := hd
  exact k.lift (fun v1 v2 => ⟨vc1 trivial (vt1 v1), v2⟩) (fun p e Rm s m args below meth c cells slots Qs F als H locs hl v1 hW hS kk => lv_i2l F.1 F.2.1 hd rfl (kk als hl))
theorem aw_i2b {x : Int32} (hd : Dc M pc (.i2b) 1 pc2) (k : AWq l E d M Z0 pc2 ls (vi (x.toInt8.toInt32) :: st) I L R Z Q) : AWq l E d M Z0 pc ls (vi x :: st) I L R Z Q := by
  obtain ⟨hd, rfl⟩ := hd
  exact k.lift (fun v1 v2 => ⟨vc1 trivial (vt1 v1), v2⟩) (fun p e Rm s m args below meth c cells slots Qs F als H locs hl v1 hW hS kk => lv_i2b F.1 F.2.1 hd rfl (kk als hl))
theorem aw_i2s {x : Int32} (hd : Dc M pc (.i2s) 1 pc2) (k : AWq l E d M Z0 pc2 ls (vi (x.toInt16.toInt32) :: st) I L R Z Q) : AWq l E d M Z0 pc ls (vi x :: st) I L R Z Q := by
  obtain ⟨hd, rfl⟩ := hd
  exact k.lift (fun v1 v2 => ⟨vc1 trivial (vt1 v1), v2⟩) (fun p e Rm s m args below meth c cells slots Qs F als H locs hl v1 hW hS kk => lv_i2s F.1 F.2.1 hd rfl (kk als hl))
theorem aw_i2c {x : Int32} (hd : Dc M pc (.i2c) 1 pc2) (k : AWq l E d M Z0 pc2 ls (vi (x.toUInt32 % 65536).toInt32 :: st) I L R Z Q) : AWq l E d M Z0 pc ls (vi x :: st) I L R Z Q := by
  obtain ⟨hd, rfl⟩ := hd
  exact k.lift (fun v1 v2 => ⟨vc1 trivial (vt1 v1), v2⟩) (fun p e Rm s m args below meth c cells slots Qs F als H locs hl v1 hW hS kk => lv_i2c F.1 F.2.1 hd rfl (kk als hl))
theorem aw_l2i {x : Int64} (hd : Dc M pc (.l2i) 1 pc2) (k : AWq l E d M Z0 pc2 ls (vi (x.toInt32) :: st) I L R Z Q) : AWq l E d M Z0 pc ls (vl x :: st) I L R Z Q := by
  obtain ⟨hd, rfl⟩ := hd
  exact k.lift (fun v1 v2 => ⟨vc1 trivial (vt1 v1), v2⟩) (fun p e Rm s m args below meth c cells slots Qs F als H locs hl v1 hW hS kk => lv_l2i F.1 F.2.1 hd rfl (kk als hl))
theorem aw_iconst {n : Int} {v : Int32} (hd : Dc M pc (.iconst n) 1 pc2) (hv : Int32.ofInt n = v) (k : AWq l E d M Z0 pc2 ls (vi v :: st) I L R Z Q) : AWq l E d M Z0 pc ls st I L R Z Q := by
  obtain ⟨hd, rfl⟩ := hd
  exact k.lift (fun v1 v2 => ⟨vc1 trivial v1, v2⟩) (fun p e Rm s m args below meth c cells slots Qs F als H locs hl v1 hW hS kk => lv_iconst F.1 F.2.1 hd hv (kk als hl))
theorem aw_bipush {n : Int} {v : Int32} (hd : Dc M pc (.bipush n) 2 pc2) (hv : (Int8.ofInt n).toInt32 = v) (k : AWq l E d M Z0 pc2 ls (vi v :: st) I L R Z Q) : AWq l E d M Z0 pc ls st I L R Z Q := by
  obtain ⟨hd, rfl⟩ := hd
  exact k.lift (fun v1 v2 => ⟨vc1 trivial v1, v2⟩) (fun p e Rm s m args below meth c cells slots Qs F als H locs hl v1 hW hS kk => lv_bipush F.1 F.2.1 hd hv (kk als hl))
theorem aw_sipush {n : Int} {v : Int32} (hd : Dc M pc (.sipush n) 3 pc2) (hv : (Int16.ofInt n).toInt32 = v) (k : AWq l E d M Z0 pc2 ls (vi v :: st) I L R Z Q) : AWq l E d M Z0 pc ls st I L R Z Q := by
  obtain ⟨hd, rfl⟩ := hd
  exact k.lift (fun v1 v2 => ⟨vc1 trivial v1, v2⟩) (fun p e Rm s m args below meth c cells slots Qs F als H locs hl v1 hW hS kk => lv_sipush F.1 F.2.1 hd hv (kk als hl))
theorem aw_lconst {n : Fin 2} {v : Int64} (hd : Dc M pc (.lconst n) 1 pc2) (hv : Int64.ofNat (n : Nat) = v) (k : AWq l E d M Z0 pc2 ls (vl v :: st) I L R Z Q) : AWq l E d M Z0 pc ls st I L R Z Q := by
  obtain ⟨hd, rfl⟩ := hd
  exact k.lift (fun v1 v2 => ⟨vc1 trivial v1, v2⟩) (fun p e Rm s m args below meth c cells slots Qs F als H locs hl v1 hW hS kk => lv_lconst F.1 F.2.1 hd hv (kk als hl))
theorem aw_anull (hd : Dc M pc (.aconst_null) 1 pc2) (k : AWq l E d M Z0 pc2 ls (vn :: st) I L R Z Q) : AWq l E d M Z0 pc ls st I L R Z Q := by
  obtain ⟨hd, rfl⟩ := hd
  exact k.lift (fun v1 v2 => ⟨vc1 trivial v1, v2⟩) (fun p e Rm s m args below meth c cells slots Qs F als H locs hl v1 hW hS kk => lv_null F.1 F.2.1 hd (kk als hl))
theorem aw_ldc {idx : Nat} {v : Int32} (hd : Dc M pc (.ldc idx) 2 pc2) (hc : Cond.constant M.1.cls idx v ∈ G) (k : AWq l E d M Z0 pc2 ls (vi v :: st) I L R Z Q) : AWq l E d M Z0 pc ls st I L R Z Q := by
  obtain ⟨hd, rfl⟩ := hd
  exact k.lift (fun v1 v2 => ⟨vc1 trivial v1, v2⟩) (fun p e Rm s m args below meth c cells slots Qs F als H locs hl v1 hW hS kk => lv_ldc F.1 F.2.1 F.2.2.2.1 (F.2.2.2.2.1 _ hc) hd (kk als hl))
theorem aw_ldcw {idx : Nat} {v : Int32} (hd : Dc M pc (.ldc_w idx) 3 pc2) (hc : Cond.constant M.1.cls idx v ∈ G) (k : AWq l E d M Z0 pc2 ls (vi v :: st) I L R Z Q) : AWq l E d M Z0 pc ls st I L R Z Q := by
  obtain ⟨hd, rfl⟩ := hd
  exact k.lift (fun v1 v2 => ⟨vc1 trivial v1, v2⟩) (fun p e Rm s m args below meth c cells slots Qs F als H locs hl v1 hW hS kk => lv_ldcw F.1 F.2.1 F.2.2.2.1 (F.2.2.2.2.1 _ hc) hd (kk als hl))
theorem aw_ldc2 {idx : Nat} {v : Int64} (hd : Dc M pc (.ldc2_w idx) 3 pc2) (hc : Cond.constantLong M.1.cls idx v ∈ G) (k : AWq l E d M Z0 pc2 ls (vl v :: st) I L R Z Q) : AWq l E d M Z0 pc ls st I L R Z Q := by
  obtain ⟨hd, rfl⟩ := hd
  exact k.lift (fun v1 v2 => ⟨vc1 trivial v1, v2⟩) (fun p e Rm s m args below meth c cells slots Qs F als H locs hl v1 hW hS kk => lv_ldc2 F.1 F.2.1 F.2.2.2.1 (F.2.2.2.2.1 _ hc) hd (kk als hl))
theorem aw_dup {a : AV} (hd : Dc M pc (.dup) 1 pc2) (ha : isLg (some a) = false := by rfl) (k : AWq l E d M Z0 pc2 ls (a :: a :: st) I L R Z Q) : AWq l E d M Z0 pc ls (a :: st) I L R Z Q := by
  obtain ⟨hd, rfl⟩ := hd
  exact k.lift (fun v1 v2 => ⟨vc1 (vh1 v1) v1, v2⟩) (fun p e Rm s m args below meth c cells slots Qs F als H locs hl v1 hW hS kk => lv_dup F.1 F.2.1 hd (cat1 E ha) (kk als hl))
theorem aw_pop {a : AV} (hd : Dc M pc (.pop) 1 pc2) (ha : isLg (some a) = false := by rfl) (k : AWq l E d M Z0 pc2 ls st I L R Z Q) : AWq l E d M Z0 pc ls (a :: st) I L R Z Q := by
  obtain ⟨hd, rfl⟩ := hd
  exact k.lift (fun v1 v2 => ⟨vt1 v1, v2⟩) (fun p e Rm s m args below meth c cells slots Qs F als H locs hl v1 hW hS kk => lv_pop F.1 F.2.1 hd (cat1 E ha) (kk als hl))
theorem aw_dup2 {a b : AV} (hd : Dc M pc (.dup2) 1 pc2) (ha : isLg (some a) = false := by rfl) (hb : isLg (some b) = false := by rfl) (k : AWq l E d M Z0 pc2 ls (a :: b :: a :: b :: st) I L R Z Q) : AWq l E d M Z0 pc ls (a :: b :: st) I L R Z Q := by
  obtain ⟨hd, rfl⟩ := hd
  exact k.lift (fun v1 v2 => ⟨vc1 (vh1 v1) (vc1 (vh1 (vt1 v1)) v1), v2⟩) (fun p e Rm s m args below meth c cells slots Qs F als H locs hl v1 hW hS kk => lv_dup2_11 F.1 F.2.1 hd (cat1 E ha) (cat1 E hb) (kk als hl))
theorem aw_iload_n {j : Fin 4} {x : Int32} (hd : Dc M pc (.iload_n j) 1 pc2) (hg : ls[(j : Nat)]? = some (some (vi x))) (k : AWq l E d M Z0 pc2 ls (vi x :: st) I L R Z Q) : AWq l E d M Z0 pc ls st I L R Z Q := by
  obtain ⟨hd, rfl⟩ := hd
  exact k.lift (fun v1 v2 => ⟨vc1 trivial v1, v2⟩) (fun p e Rm s m args below meth c cells slots Qs F als H locs hl v1 hW hS kk => lv_iload_n F.1 F.2.1 hd rfl (hl.get hg) (kk als hl))
theorem aw_iload {j : Nat} {x : Int32} (hd : Dc M pc (.iload j) 2 pc2) (hg : ls[j]? = some (some (vi x))) (k : AWq l E d M Z0 pc2 ls (vi x :: st) I L R Z Q) : AWq l E d M Z0 pc ls st I L R Z Q := by
  obtain ⟨hd, rfl⟩ := hd
  exact k.lift (fun v1 v2 => ⟨vc1 trivial v1, v2⟩) (fun p e Rm s m args below meth c cells slots Qs F als H locs hl v1 hW hS kk => lv_iload F.1 F.2.1 hd (hl.get hg) (kk als hl))
theorem aw_lload_n {j : Fin 4} {x : Int64} (hd : Dc M pc (.lload_n j) 1 pc2) (hg : ls[(j : Nat)]? = some (some (vl x))) (k : AWq l E d M Z0 pc2 ls (vl x :: st) I L R Z Q) : AWq l E d M Z0 pc ls st I L R Z Q := by
  obtain ⟨hd, rfl⟩ := hd
  exact k.lift (fun v1 v2 => ⟨vc1 trivial v1, v2⟩) (fun p e Rm s m args below meth c cells slots Qs F als H locs hl v1 hW hS kk => lv_lload_n F.1 F.2.1 hd rfl (hl.get hg) (kk als hl))
theorem aw_lload {j : Nat} {x : Int64} (hd : Dc M pc (.lload j) 2 pc2) (hg : ls[j]? = some (some (vl x))) (k : AWq l E d M Z0 pc2 ls (vl x :: st) I L R Z Q) : AWq l E d M Z0 pc ls st I L R Z Q := by
  obtain ⟨hd, rfl⟩ := hd
  exact k.lift (fun v1 v2 => ⟨vc1 trivial v1, v2⟩) (fun p e Rm s m args below meth c cells slots Qs F als H locs hl v1 hW hS kk => lv_lload F.1 F.2.1 hd (hl.get hg) (kk als hl))
theorem aw_aload_n {j : Fin 4} {t i : Nat} (hd : Dc M pc (.aload_n j) 1 pc2) (hg : ls[(j : Nat)]? = some (some (vr t i))) (k : AWq l E d M Z0 pc2 ls (vr t i :: st) I L R Z Q) : AWq l E d M Z0 pc ls st I L R Z Q := by
  obtain ⟨hd, rfl⟩ := hd
  exact k.lift (fun v1 v2 => ⟨vc1 (v2 _ (List.mem_of_getElem? hg)) v1, v2⟩) (fun p e Rm s m args below meth c cells slots Qs F als H locs hl v1 hW hS kk => lv_aload_n F.1 F.2.1 hd rfl (hl.get hg) (kk als hl))
theorem aw_aload {j : Nat} {t i : Nat} (hd : Dc M pc (.aload j) 2 pc2) (hg : ls[j]? = some (some (vr t i))) (k : AWq l E d M Z0 pc2 ls (vr t i :: st) I L R Z Q) : AWq l E d M Z0 pc ls st I L R Z Q := by
  obtain ⟨hd, rfl⟩ := hd
  exact k.lift (fun v1 v2 => ⟨vc1 (v2 _ (List.mem_of_getElem? hg)) v1, v2⟩) (fun p e Rm s m args below meth c cells slots Qs F als H locs hl v1 hW hS kk => lv_aload F.1 F.2.1 hd (hl.get hg) (kk als hl))
theorem aw_istore_n {j : Fin 4} {x : Int32} (hd : Dc M pc (.istore_n j) 1 pc2) (hj : (j : Nat) < M.2.2.1) (hp : ∀ q, q + 1 = (j : Nat) → isLg (ls.getD q none) = false) (k : AWq l E d M Z0 pc2 (ls.set (j : Nat) (some (vi x))) st I L R Z Q) : AWq l E d M Z0 pc ls (vi x :: st) I L R Z Q := by
  obtain ⟨hd, rfl⟩ := hd
  exact k.lift (fun v1 v2 => ⟨vt1 v1, vset v2 (vh1 v1)⟩) (fun p e Rm s m args below meth c cells slots Qs F als H locs hl v1 hW hS kk => lv_istore_n F.1 F.2.1 hd rfl hl.1 hj rfl (fun als2 hl2 => kk als2 (hl.st1 (v := vi x) hp hl2)))
theorem aw_istore {j : Nat} {x : Int32} (hd : Dc M pc (.istore j) 2 pc2) (hj : j < M.2.2.1) (hp : ∀ q, q + 1 = j → isLg (ls.getD q none) = false) (k : AWq l E d M Z0 pc2 (ls.set j (some (vi x))) st I L R Z Q) : AWq l E d M Z0 pc ls (vi x :: st) I L R Z Q := by
  obtain ⟨hd, rfl⟩ := hd
  exact k.lift (fun v1 v2 => ⟨vt1 v1, vset v2 (vh1 v1)⟩) (fun p e Rm s m args below meth c cells slots Qs F als H locs hl v1 hW hS kk => lv_istore F.1 F.2.1 hd hl.1 hj rfl (fun als2 hl2 => kk als2 (hl.st1 (v := vi x) hp hl2)))
theorem aw_astore_n {j : Fin 4} {t i : Nat} (hd : Dc M pc (.astore_n j) 1 pc2) (hj : (j : Nat) < M.2.2.1) (hp : ∀ q, q + 1 = (j : Nat) → isLg (ls.getD q none) = false) (k : AWq l E d M Z0 pc2 (ls.set (j : Nat) (some (vr t i))) st I L R Z Q) : AWq l E d M Z0 pc ls (vr t i :: st) I L R Z Q := by
  obtain ⟨hd, rfl⟩ := hd
  exact k.lift (fun v1 v2 => ⟨vt1 v1, vset v2 (vh1 v1)⟩) (fun p e Rm s m args below meth c cells slots Qs F als H locs hl v1 hW hS kk => lv_astore_n F.1 F.2.1 hd rfl hl.1 hj rfl (fun als2 hl2 => kk als2 (hl.st1 (v := vr t i) hp hl2)))
theorem aw_astore {j : Nat} {t i : Nat} (hd : Dc M pc (.astore j) 2 pc2) (hj : j < M.2.2.1) (hp : ∀ q, q + 1 = j → isLg (ls.getD q none) = false) (k : AWq l E d M Z0 pc2 (ls.set j (some (vr t i))) st I L R Z Q) : AWq l E d M Z0 pc ls (vr t i :: st) I L R Z Q := by
  obtain ⟨hd, rfl⟩ := hd
  exact k.lift (fun v1 v2 => ⟨vt1 v1, vset v2 (vh1 v1)⟩) (fun p e Rm s m args below meth c cells slots Qs F als H locs hl v1 hW hS kk => lv_astore F.1 F.2.1 hd hl.1 hj rfl (fun als2 hl2 => kk als2 (hl.st1 (v := vr t i) hp hl2)))
theorem aw_lstore_n {j : Fin 4} {x : Int64} (hd : Dc M pc (.lstore_n j) 1 pc2) (hj : (j : Nat) + 1 < M.2.2.1) (hp : ∀ q, q + 1 = (j : Nat) → isLg (ls.getD q none) = false) (k : AWq l E d M Z0 pc2 ((ls.set (j : Nat) (some (vl x))).set ((j : Nat) + 1) none) st I L R Z Q) : AWq l E d M Z0 pc ls (vl x :: st) I L R Z Q := by
  obtain ⟨hd, rfl⟩ := hd
  exact k.lift (fun v1 v2 => ⟨vt1 v1, vsetN (vset v2 (vh1 v1))⟩) (fun p e Rm s m args below meth c cells slots Qs F als H locs hl v1 hW hS kk => lv_lstore_n F.1 F.2.1 hd rfl hl.1 hj rfl (fun als2 hl2 => kk als2 (hl.st2 (v := vl x) hp hl2)))
theorem aw_lstore {j : Nat} {x : Int64} (hd : Dc M pc (.lstore j) 2 pc2) (hj : j + 1 < M.2.2.1) (hp : ∀ q, q + 1 = j → isLg (ls.getD q none) = false) (k : AWq l E d M Z0 pc2 ((ls.set j (some (vl x))).set (j + 1) none) st I L R Z Q) : AWq l E d M Z0 pc ls (vl x :: st) I L R Z Q := by
  obtain ⟨hd, rfl⟩ := hd
  exact k.lift (fun v1 v2 => ⟨vt1 v1, vsetN (vset v2 (vh1 v1))⟩) (fun p e Rm s m args below meth c cells slots Qs F als H locs hl v1 hW hS kk => lv_lstore F.1 F.2.1 hd hl.1 hj rfl (fun als2 hl2 => kk als2 (hl.st2 (v := vl x) hp hl2)))
theorem aw_iinc {j : Nat} {n : Int} {x v : Int32} (hd : Dc M pc (.iinc j n) 3 pc2) (hg : ls[j]? = some (some (vi x))) (hj : j < M.2.2.1) (hp : ∀ q, q + 1 = j → isLg (ls.getD q none) = false) (hv : x + Int32.ofInt n = v) (k : AWq l E d M Z0 pc2 (ls.set j (some (vi v))) st I L R Z Q) : AWq l E d M Z0 pc ls st I L R Z Q := by
  obtain ⟨hd, rfl⟩ := hd
  refine k.lift (fun v1 v2 => ⟨v1, vset v2 trivial⟩) (fun p e Rm s m args below meth c cells slots Qs F als H locs hl v1 hW hS kk => ?_)
  have h1 : (j, vi x) ∈ lvP ls 0 := (lvP_mem ls 0 j).mpr ⟨j, by omega, hg⟩
  obtain ⟨q, hq⟩ := List.getElem?_of_mem (List.mem_map.mpr ⟨(j, vi x), h1, rfl⟩ : (j, cv E (vi x)) ∈ (lvP ls 0).map fun q => (q.1, cv E q.2))
  exact lv_iinc F.1 F.2.1 hd hl.1 hq hv hj rfl (fun als2 hl2 => kk als2 (hl.st1 (v := vi v) hp hl2))
theorem aw_icmp_eq {x y : Int32} {off : Int} (hd : Db M pc (.if_icmp .eq off) off tgt pc2) (kt : x = y → AWq l E d M Z0 tgt ls st I L R Z Q) (kf : ¬ x = y → AWq l E d M Z0 pc2 ls st I L R Z Q) : AWq l E d M Z0 pc ls (vi y :: vi x :: st) I L R Z Q := by
  obtain ⟨hd, rfl, ht⟩ := hd
  by_cases hc : x = y
  · exact (kt hc).lift (fun v1 v2 => ⟨vt1 (vt1 v1), v2⟩) (fun p e Rm s m args below meth c cells slots Qs F als H locs hl v1 hW hS kk => lv_icmp_eq F.1 F.2.1 hd ht (fun _ => kk als hl) (fun h => absurd hc h))
  · exact (kf hc).lift (fun v1 v2 => ⟨vt1 (vt1 v1), v2⟩) (fun p e Rm s m args below meth c cells slots Qs F als H locs hl v1 hW hS kk => lv_icmp_eq F.1 F.2.1 hd ht (fun h => absurd h hc) (fun _ => kk als hl))
theorem aw_icmp_ne {x y : Int32} {off : Int} (hd : Db M pc (.if_icmp .ne off) off tgt pc2) (kt : ¬ x = y → AWq l E d M Z0 tgt ls st I L R Z Q) (kf : x = y → AWq l E d M Z0 pc2 ls st I L R Z Q) : AWq l E d M Z0 pc ls (vi y :: vi x :: st) I L R Z Q := by
  obtain ⟨hd, rfl, ht⟩ := hd
  by_cases hc : x = y
  · exact (kf hc).lift (fun v1 v2 => ⟨vt1 (vt1 v1), v2⟩) (fun p e Rm s m args below meth c cells slots Qs F als H locs hl v1 hW hS kk => lv_icmp_ne F.1 F.2.1 hd ht (fun h => absurd hc h) (fun _ => kk als hl))
  · exact (kt hc).lift (fun v1 v2 => ⟨vt1 (vt1 v1), v2⟩) (fun p e Rm s m args below meth c cells slots Qs F als H locs hl v1 hW hS kk => lv_icmp_ne F.1 F.2.1 hd ht (fun _ => kk als hl) (fun h => absurd h hc))
theorem aw_icmp_lt {x y : Int32} {off : Int} (hd : Db M pc (.if_icmp .lt off) off tgt pc2) (kt : x < y → AWq l E d M Z0 tgt ls st I L R Z Q) (kf : ¬ x < y → AWq l E d M Z0 pc2 ls st I L R Z Q) : AWq l E d M Z0 pc ls (vi y :: vi x :: st) I L R Z Q := by
  obtain ⟨hd, rfl, ht⟩ := hd
  by_cases hc : x < y
  · exact (kt hc).lift (fun v1 v2 => ⟨vt1 (vt1 v1), v2⟩) (fun p e Rm s m args below meth c cells slots Qs F als H locs hl v1 hW hS kk => lv_icmp_lt F.1 F.2.1 hd ht (fun _ => kk als hl) (fun h => absurd hc h))
  · exact (kf hc).lift (fun v1 v2 => ⟨vt1 (vt1 v1), v2⟩) (fun p e Rm s m args below meth c cells slots Qs F als H locs hl v1 hW hS kk => lv_icmp_lt F.1 F.2.1 hd ht (fun h => absurd h hc) (fun _ => kk als hl))
theorem aw_icmp_ge {x y : Int32} {off : Int} (hd : Db M pc (.if_icmp .ge off) off tgt pc2) (kt : y ≤ x → AWq l E d M Z0 tgt ls st I L R Z Q) (kf : ¬ y ≤ x → AWq l E d M Z0 pc2 ls st I L R Z Q) : AWq l E d M Z0 pc ls (vi y :: vi x :: st) I L R Z Q := by
  obtain ⟨hd, rfl, ht⟩ := hd
  by_cases hc : y ≤ x
  · exact (kt hc).lift (fun v1 v2 => ⟨vt1 (vt1 v1), v2⟩) (fun p e Rm s m args below meth c cells slots Qs F als H locs hl v1 hW hS kk => lv_icmp_ge F.1 F.2.1 hd ht (fun _ => kk als hl) (fun h => absurd hc h))
  · exact (kf hc).lift (fun v1 v2 => ⟨vt1 (vt1 v1), v2⟩) (fun p e Rm s m args below meth c cells slots Qs F als H locs hl v1 hW hS kk => lv_icmp_ge F.1 F.2.1 hd ht (fun h => absurd h hc) (fun _ => kk als hl))
theorem aw_icmp_gt {x y : Int32} {off : Int} (hd : Db M pc (.if_icmp .gt off) off tgt pc2) (kt : y < x → AWq l E d M Z0 tgt ls st I L R Z Q) (kf : ¬ y < x → AWq l E d M Z0 pc2 ls st I L R Z Q) : AWq l E d M Z0 pc ls (vi y :: vi x :: st) I L R Z Q := by
  obtain ⟨hd, rfl, ht⟩ := hd
  by_cases hc : y < x
  · exact (kt hc).lift (fun v1 v2 => ⟨vt1 (vt1 v1), v2⟩) (fun p e Rm s m args below meth c cells slots Qs F als H locs hl v1 hW hS kk => lv_icmp_gt F.1 F.2.1 hd ht (fun _ => kk als hl) (fun h => absurd hc h))
  · exact (kf hc).lift (fun v1 v2 => ⟨vt1 (vt1 v1), v2⟩) (fun p e Rm s m args below meth c cells slots Qs F als H locs hl v1 hW hS kk => lv_icmp_gt F.1 F.2.1 hd ht (fun h => absurd h hc) (fun _ => kk als hl))
theorem aw_icmp_le {x y : Int32} {off : Int} (hd : Db M pc (.if_icmp .le off) off tgt pc2) (kt : x ≤ y → AWq l E d M Z0 tgt ls st I L R Z Q) (kf : ¬ x ≤ y → AWq l E d M Z0 pc2 ls st I L R Z Q) : AWq l E d M Z0 pc ls (vi y :: vi x :: st) I L R Z Q := by
  obtain ⟨hd, rfl, ht⟩ := hd
  by_cases hc : x ≤ y
  · exact (kt hc).lift (fun v1 v2 => ⟨vt1 (vt1 v1), v2⟩) (fun p e Rm s m args below meth c cells slots Qs F als H locs hl v1 hW hS kk => lv_icmp_le F.1 F.2.1 hd ht (fun _ => kk als hl) (fun h => absurd hc h))
  · exact (kf hc).lift (fun v1 v2 => ⟨vt1 (vt1 v1), v2⟩) (fun p e Rm s m args below meth c cells slots Qs F als H locs hl v1 hW hS kk => lv_icmp_le F.1 F.2.1 hd ht (fun h => absurd h hc) (fun _ => kk als hl))
theorem aw_if_eq {x : Int32} {off : Int} (hd : Db M pc (.ifCond .eq off) off tgt pc2) (kt : x = 0 → AWq l E d M Z0 tgt ls st I L R Z Q) (kf : ¬ x = 0 → AWq l E d M Z0 pc2 ls st I L R Z Q) : AWq l E d M Z0 pc ls (vi x :: st) I L R Z Q := by
  obtain ⟨hd, rfl, ht⟩ := hd
  by_cases hc : x = 0
  · exact (kt hc).lift (fun v1 v2 => ⟨vt1 v1, v2⟩) (fun p e Rm s m args below meth c cells slots Qs F als H locs hl v1 hW hS kk => lv_if_eq F.1 F.2.1 hd ht (fun _ => kk als hl) (fun h => absurd hc h))
  · exact (kf hc).lift (fun v1 v2 => ⟨vt1 v1, v2⟩) (fun p e Rm s m args below meth c cells slots Qs F als H locs hl v1 hW hS kk => lv_if_eq F.1 F.2.1 hd ht (fun h => absurd h hc) (fun _ => kk als hl))
theorem aw_if_ne {x : Int32} {off : Int} (hd : Db M pc (.ifCond .ne off) off tgt pc2) (kt : ¬ x = 0 → AWq l E d M Z0 tgt ls st I L R Z Q) (kf : x = 0 → AWq l E d M Z0 pc2 ls st I L R Z Q) : AWq l E d M Z0 pc ls (vi x :: st) I L R Z Q := by
  obtain ⟨hd, rfl, ht⟩ := hd
  by_cases hc : x = 0
  · exact (kf hc).lift (fun v1 v2 => ⟨vt1 v1, v2⟩) (fun p e Rm s m args below meth c cells slots Qs F als H locs hl v1 hW hS kk => lv_if_ne F.1 F.2.1 hd ht (fun h => absurd hc h) (fun _ => kk als hl))
  · exact (kt hc).lift (fun v1 v2 => ⟨vt1 v1, v2⟩) (fun p e Rm s m args below meth c cells slots Qs F als H locs hl v1 hW hS kk => lv_if_ne F.1 F.2.1 hd ht (fun _ => kk als hl) (fun h => absurd h hc))
theorem aw_if_lt {x : Int32} {off : Int} (hd : Db M pc (.ifCond .lt off) off tgt pc2) (kt : x < 0 → AWq l E d M Z0 tgt ls st I L R Z Q) (kf : ¬ x < 0 → AWq l E d M Z0 pc2 ls st I L R Z Q) : AWq l E d M Z0 pc ls (vi x :: st) I L R Z Q := by
  obtain ⟨hd, rfl, ht⟩ := hd
  by_cases hc : x < 0
  · exact (kt hc).lift (fun v1 v2 => ⟨vt1 v1, v2⟩) (fun p e Rm s m args below meth c cells slots Qs F als H locs hl v1 hW hS kk => lv_if_lt F.1 F.2.1 hd ht (fun _ => kk als hl) (fun h => absurd hc h))
  · exact (kf hc).lift (fun v1 v2 => ⟨vt1 v1, v2⟩) (fun p e Rm s m args below meth c cells slots Qs F als H locs hl v1 hW hS kk => lv_if_lt F.1 F.2.1 hd ht (fun h => absurd h hc) (fun _ => kk als hl))
theorem aw_if_ge {x : Int32} {off : Int} (hd : Db M pc (.ifCond .ge off) off tgt pc2) (kt : 0 ≤ x → AWq l E d M Z0 tgt ls st I L R Z Q) (kf : ¬ 0 ≤ x → AWq l E d M Z0 pc2 ls st I L R Z Q) : AWq l E d M Z0 pc ls (vi x :: st) I L R Z Q := by
  obtain ⟨hd, rfl, ht⟩ := hd
  by_cases hc : 0 ≤ x
  · exact (kt hc).lift (fun v1 v2 => ⟨vt1 v1, v2⟩) (fun p e Rm s m args below meth c cells slots Qs F als H locs hl v1 hW hS kk => lv_if_ge F.1 F.2.1 hd ht (fun _ => kk als hl) (fun h => absurd hc h))
  · exact (kf hc).lift (fun v1 v2 => ⟨vt1 v1, v2⟩) (fun p e Rm s m args below meth c cells slots Qs F als H locs hl v1 hW hS kk => lv_if_ge F.1 F.2.1 hd ht (fun h => absurd h hc) (fun _ => kk als hl))
theorem aw_if_gt {x : Int32} {off : Int} (hd : Db M pc (.ifCond .gt off) off tgt pc2) (kt : 0 < x → AWq l E d M Z0 tgt ls st I L R Z Q) (kf : ¬ 0 < x → AWq l E d M Z0 pc2 ls st I L R Z Q) : AWq l E d M Z0 pc ls (vi x :: st) I L R Z Q := by
  obtain ⟨hd, rfl, ht⟩ := hd
  by_cases hc : 0 < x
  · exact (kt hc).lift (fun v1 v2 => ⟨vt1 v1, v2⟩) (fun p e Rm s m args below meth c cells slots Qs F als H locs hl v1 hW hS kk => lv_if_gt F.1 F.2.1 hd ht (fun _ => kk als hl) (fun h => absurd hc h))
  · exact (kf hc).lift (fun v1 v2 => ⟨vt1 v1, v2⟩) (fun p e Rm s m args below meth c cells slots Qs F als H locs hl v1 hW hS kk => lv_if_gt F.1 F.2.1 hd ht (fun h => absurd h hc) (fun _ => kk als hl))
theorem aw_if_le {x : Int32} {off : Int} (hd : Db M pc (.ifCond .le off) off tgt pc2) (kt : x ≤ 0 → AWq l E d M Z0 tgt ls st I L R Z Q) (kf : ¬ x ≤ 0 → AWq l E d M Z0 pc2 ls st I L R Z Q) : AWq l E d M Z0 pc ls (vi x :: st) I L R Z Q := by
  obtain ⟨hd, rfl, ht⟩ := hd
  by_cases hc : x ≤ 0
  · exact (kt hc).lift (fun v1 v2 => ⟨vt1 v1, v2⟩) (fun p e Rm s m args below meth c cells slots Qs F als H locs hl v1 hW hS kk => lv_if_le F.1 F.2.1 hd ht (fun _ => kk als hl) (fun h => absurd hc h))
  · exact (kf hc).lift (fun v1 v2 => ⟨vt1 v1, v2⟩) (fun p e Rm s m args below meth c cells slots Qs F als H locs hl v1 hW hS kk => lv_if_le F.1 F.2.1 hd ht (fun h => absurd h hc) (fun _ => kk als hl))
theorem aw_goto {off : Int} (hd : Db M pc (.goto off) off tgt pc2) (k : AWq l E d M Z0 tgt ls st I L R Z Q) : AWq l E d M Z0 pc ls st I L R Z Q :=
  k.lift (fun v1 v2 => ⟨v1, v2⟩) (fun p e Rm s m args below meth c cells slots Qs F als H locs hl v1 hW hS kk => lv_goto F.1 F.2.1 hd.1 hd.2.2 (kk als hl))
theorem aw_ifnull {t i : Nat} {off : Int} (hd : Db M pc (.ifnull off) off tgt pc2) (k : AWq l E d M Z0 pc2 ls st I L R Z Q) : AWq l E d M Z0 pc ls (vr t i :: st) I L R Z Q := by
  obtain ⟨hd, rfl, ht⟩ := hd
  exact k.lift (fun v1 v2 => ⟨vt1 v1, v2⟩) (fun p e Rm s m args below meth c cells slots Qs F als H locs hl v1 hW hS kk => lv_ifnull F.1 F.2.1 hd (kk als hl))
theorem aw_ifnullN {off : Int} (hd : Db M pc (.ifnull off) off tgt pc2) (k : AWq l E d M Z0 tgt ls st I L R Z Q) : AWq l E d M Z0 pc ls (vn :: st) I L R Z Q := by
  obtain ⟨hd, rfl, ht⟩ := hd
  exact k.lift (fun v1 v2 => ⟨vt1 v1, v2⟩) (fun p e Rm s m args below meth c cells slots Qs F als H locs hl v1 hW hS kk => lv_ifnullN F.1 F.2.1 hd ht (kk als hl))
theorem aw_ifnn {t i : Nat} {off : Int} (hd : Db M pc (.ifnonnull off) off tgt pc2) (k : AWq l E d M Z0 tgt ls st I L R Z Q) : AWq l E d M Z0 pc ls (vr t i :: st) I L R Z Q := by
  obtain ⟨hd, rfl, ht⟩ := hd
  exact k.lift (fun v1 v2 => ⟨vt1 v1, v2⟩) (fun p e Rm s m args below meth c cells slots Qs F als H locs hl v1 hW hS kk => lv_ifnonnull F.1 F.2.1 hd ht (kk als hl))
theorem aw_ifnnN {off : Int} (hd : Db M pc (.ifnonnull off) off tgt pc2) (k : AWq l E d M Z0 pc2 ls st I L R Z Q) : AWq l E d M Z0 pc ls (vn :: st) I L R Z Q := by
  obtain ⟨hd, rfl, ht⟩ := hd
  exact k.lift (fun v1 v2 => ⟨vt1 v1, v2⟩) (fun p e Rm s m args below meth c cells slots Qs F als H locs hl v1 hW hS kk => lv_ifnonnullN F.1 F.2.1 hd (kk als hl))
theorem aw_aloadN {j : Fin 4} (hd : Dc M pc (.aload_n j) 1 pc2) (hg : ls[(j : Nat)]? = some (some vn)) (k : AWq l E d M Z0 pc2 ls (vn :: st) I L R Z Q) : AWq l E d M Z0 pc ls st I L R Z Q := by
  obtain ⟨hd, rfl⟩ := hd
  exact k.lift (fun v1 v2 => ⟨vc1 trivial v1, v2⟩) (fun p e Rm s m args below meth c cells slots Qs F als H locs hl v1 hW hS kk => lv_aload_nN F.1 F.2.1 hd rfl (hl.get hg) (kk als hl))
theorem aw_astoreN {j : Fin 4} (hd : Dc M pc (.astore_n j) 1 pc2) (hj : (j : Nat) < M.2.2.1) (hp : ∀ q, q + 1 = (j : Nat) → isLg (ls.getD q none) = false) (k : AWq l E d M Z0 pc2 (ls.set (j : Nat) (some vn)) st I L R Z Q) : AWq l E d M Z0 pc ls (vn :: st) I L R Z Q := by
  obtain ⟨hd, rfl⟩ := hd
  exact k.lift (fun v1 v2 => ⟨vt1 v1, vset v2 trivial⟩) (fun p e Rm s m args below meth c cells slots Qs F als H locs hl v1 hW hS kk => lv_astore_nN F.1 F.2.1 hd rfl hl.1 hj rfl (fun als2 hl2 => kk als2 (hl.st1 (v := vn) hp hl2)))
theorem aw_tsIn {dflt lo hi : Int} {offs : Array Int} {len : Nat} {x : Int32} {off : Int} (hd : Dc M pc (.tableswitch dflt lo hi offs) len pc2) (h1 : ¬ x.toInt < lo) (h2 : ¬ hi < x.toInt) (ho : offs[(x.toInt - lo).toNat]? = some off) (ht : (pc : Int) + off = (tgt : Int)) (k : AWq l E d M Z0 tgt ls st I L R Z Q) : AWq l E d M Z0 pc ls (vi x :: st) I L R Z Q :=
  k.lift (fun v1 v2 => ⟨vt1 v1, v2⟩) (fun p e Rm s m args below meth c cells slots Qs F als H locs hl v1 hW hS kk => lv_tableIn F.1 F.2.1 hd.1 h1 h2 ho ht (kk als hl))
theorem aw_tsOut {dflt lo hi : Int} {offs : Array Int} {len : Nat} {x : Int32} (hd : Dc M pc (.tableswitch dflt lo hi offs) len pc2) (h : x.toInt < lo ∨ hi < x.toInt) (ht : (pc : Int) + dflt = (tgt : Int)) (k : AWq l E d M Z0 tgt ls st I L R Z Q) : AWq l E d M Z0 pc ls (vi x :: st) I L R Z Q :=
  k.lift (fun v1 v2 => ⟨vt1 v1, v2⟩) (fun p e Rm s m args below meth c cells slots Qs F als H locs hl v1 hW hS kk => lv_tableOut F.1 F.2.1 hd.1 h ht (kk als hl))
theorem aw_ist0 {x : Int32} {b : Option AV} {t : List (Option AV)} (hd : Dc M pc (.istore_n 0) 1 pc2) (k : AWq l E d M Z0 pc2 (some (vi x) :: t) st I L R Z Q) (hj : 0 < M.2.2.1 := by decide) : AWq l E d M Z0 pc (b :: t) (vi x :: st) I L R Z Q :=
  aw_istore_n (j := 0) hd hj (fun q hq => absurd hq (Nat.succ_ne_zero q)) k
theorem aw_ist0w {x : Int32} {b : Option AV} {t : List (Option AV)} (hd : Dc M pc (.istore 0) 2 pc2) (k : AWq l E d M Z0 pc2 (some (vi x) :: t) st I L R Z Q) (hj : 0 < M.2.2.1 := by decide) : AWq l E d M Z0 pc (b :: t) (vi x :: st) I L R Z Q :=
  aw_istore (j := 0) hd hj (fun q hq => absurd hq (Nat.succ_ne_zero q)) k
theorem aw_ast0 {r i : Nat} {b : Option AV} {t : List (Option AV)} (hd : Dc M pc (.astore_n 0) 1 pc2) (k : AWq l E d M Z0 pc2 (some (vr r i) :: t) st I L R Z Q) (hj : 0 < M.2.2.1 := by decide) : AWq l E d M Z0 pc (b :: t) (vr r i :: st) I L R Z Q :=
  aw_astore_n (j := 0) hd hj (fun q hq => absurd hq (Nat.succ_ne_zero q)) k
theorem aw_ast0w {r i : Nat} {b : Option AV} {t : List (Option AV)} (hd : Dc M pc (.astore 0) 2 pc2) (k : AWq l E d M Z0 pc2 (some (vr r i) :: t) st I L R Z Q) (hj : 0 < M.2.2.1 := by decide) : AWq l E d M Z0 pc (b :: t) (vr r i :: st) I L R Z Q :=
  aw_astore (j := 0) hd hj (fun q hq => absurd hq (Nat.succ_ne_zero q)) k
theorem aw_inc0 {x v : Int32} {n : Int} {t : List (Option AV)} (hd : Dc M pc (.iinc 0 n) 3 pc2) (hv : x + Int32.ofInt n = v) (k : AWq l E d M Z0 pc2 (some (vi v) :: t) st I L R Z Q) (hj : 0 < M.2.2.1 := by decide) : AWq l E d M Z0 pc (some (vi x) :: t) st I L R Z Q :=
  aw_iinc hd rfl hj (fun q hq => absurd hq (Nat.succ_ne_zero q)) hv k
theorem aw_lst0 {x : Int64} {b b2 : Option AV} {t : List (Option AV)} (hd : Dc M pc (.lstore_n 0) 1 pc2) (k : AWq l E d M Z0 pc2 (some (vl x) :: none :: t) st I L R Z Q) (hj : 0 + 1 < M.2.2.1 := by decide) : AWq l E d M Z0 pc (b :: b2 :: t) (vl x :: st) I L R Z Q :=
  aw_lstore_n (j := 0) hd hj (fun q hq => absurd hq (Nat.succ_ne_zero q)) k
theorem aw_lst0w {x : Int64} {b b2 : Option AV} {t : List (Option AV)} (hd : Dc M pc (.lstore 0) 2 pc2) (k : AWq l E d M Z0 pc2 (some (vl x) :: none :: t) st I L R Z Q) (hj : 0 + 1 < M.2.2.1 := by decide) : AWq l E d M Z0 pc (b :: b2 :: t) (vl x :: st) I L R Z Q :=
  aw_lstore (j := 0) hd hj (fun q hq => absurd hq (Nat.succ_ne_zero q)) k
theorem aw_ist1 {x : Int32} {a0 b : Option AV} {t : List (Option AV)} (hd : Dc M pc (.istore_n 1) 1 pc2) (k : AWq l E d M Z0 pc2 (a0 :: some (vi x) :: t) st I L R Z Q) (hj : 1 < M.2.2.1 := by decide) (hp : isLg a0 = false := by rfl) : AWq l E d M Z0 pc (a0 :: b :: t) (vi x :: st) I L R Z Q :=
  aw_istore_n (j := 1) hd hj (hpS (k := 0) rfl hp) k
theorem aw_ist1w {x : Int32} {a0 b : Option AV} {t : List (Option AV)} (hd : Dc M pc (.istore 1) 2 pc2) (k : AWq l E d M Z0 pc2 (a0 :: some (vi x) :: t) st I L R Z Q) (hj : 1 < M.2.2.1 := by decide) (hp : isLg a0 = false := by rfl) : AWq l E d M Z0 pc (a0 :: b :: t) (vi x :: st) I L R Z Q :=
  aw_istore (j := 1) hd hj (hpS (k := 0) rfl hp) k
theorem aw_ast1 {r i : Nat} {a0 b : Option AV} {t : List (Option AV)} (hd : Dc M pc (.astore_n 1) 1 pc2) (k : AWq l E d M Z0 pc2 (a0 :: some (vr r i) :: t) st I L R Z Q) (hj : 1 < M.2.2.1 := by decide) (hp : isLg a0 = false := by rfl) : AWq l E d M Z0 pc (a0 :: b :: t) (vr r i :: st) I L R Z Q :=
  aw_astore_n (j := 1) hd hj (hpS (k := 0) rfl hp) k
theorem aw_ast1w {r i : Nat} {a0 b : Option AV} {t : List (Option AV)} (hd : Dc M pc (.astore 1) 2 pc2) (k : AWq l E d M Z0 pc2 (a0 :: some (vr r i) :: t) st I L R Z Q) (hj : 1 < M.2.2.1 := by decide) (hp : isLg a0 = false := by rfl) : AWq l E d M Z0 pc (a0 :: b :: t) (vr r i :: st) I L R Z Q :=
  aw_astore (j := 1) hd hj (hpS (k := 0) rfl hp) k
theorem aw_inc1 {x v : Int32} {n : Int} {a0 : Option AV} {t : List (Option AV)} (hd : Dc M pc (.iinc 1 n) 3 pc2) (hv : x + Int32.ofInt n = v) (k : AWq l E d M Z0 pc2 (a0 :: some (vi v) :: t) st I L R Z Q) (hj : 1 < M.2.2.1 := by decide) (hp : isLg a0 = false := by rfl) : AWq l E d M Z0 pc (a0 :: some (vi x) :: t) st I L R Z Q :=
  aw_iinc hd rfl hj (hpS (k := 0) rfl hp) hv k
theorem aw_lst1 {x : Int64} {a0 b b2 : Option AV} {t : List (Option AV)} (hd : Dc M pc (.lstore_n 1) 1 pc2) (k : AWq l E d M Z0 pc2 (a0 :: some (vl x) :: none :: t) st I L R Z Q) (hj : 1 + 1 < M.2.2.1 := by decide) (hp : isLg a0 = false := by rfl) : AWq l E d M Z0 pc (a0 :: b :: b2 :: t) (vl x :: st) I L R Z Q :=
  aw_lstore_n (j := 1) hd hj (hpS (k := 0) rfl hp) k
theorem aw_lst1w {x : Int64} {a0 b b2 : Option AV} {t : List (Option AV)} (hd : Dc M pc (.lstore 1) 2 pc2) (k : AWq l E d M Z0 pc2 (a0 :: some (vl x) :: none :: t) st I L R Z Q) (hj : 1 + 1 < M.2.2.1 := by decide) (hp : isLg a0 = false := by rfl) : AWq l E d M Z0 pc (a0 :: b :: b2 :: t) (vl x :: st) I L R Z Q :=
  aw_lstore (j := 1) hd hj (hpS (k := 0) rfl hp) k
theorem aw_ist2 {x : Int32} {a0 a1 b : Option AV} {t : List (Option AV)} (hd : Dc M pc (.istore_n 2) 1 pc2) (k : AWq l E d M Z0 pc2 (a0 :: a1 :: some (vi x) :: t) st I L R Z Q) (hj : 2 < M.2.2.1 := by decide) (hp : isLg a1 = false := by rfl) : AWq l E d M Z0 pc (a0 :: a1 :: b :: t) (vi x :: st) I L R Z Q :=
  aw_istore_n (j := 2) hd hj (hpS (k := 1) rfl hp) k
theorem aw_ist2w {x : Int32} {a0 a1 b : Option AV} {t : List (Option AV)} (hd : Dc M pc (.istore 2) 2 pc2) (k : AWq l E d M Z0 pc2 (a0 :: a1 :: some (vi x) :: t) st I L R Z Q) (hj : 2 < M.2.2.1 := by decide) (hp : isLg a1 = false := by rfl) : AWq l E d M Z0 pc (a0 :: a1 :: b :: t) (vi x :: st) I L R Z Q :=
  aw_istore (j := 2) hd hj (hpS (k := 1) rfl hp) k
theorem aw_ast2 {r i : Nat} {a0 a1 b : Option AV} {t : List (Option AV)} (hd : Dc M pc (.astore_n 2) 1 pc2) (k : AWq l E d M Z0 pc2 (a0 :: a1 :: some (vr r i) :: t) st I L R Z Q) (hj : 2 < M.2.2.1 := by decide) (hp : isLg a1 = false := by rfl) : AWq l E d M Z0 pc (a0 :: a1 :: b :: t) (vr r i :: st) I L R Z Q :=
  aw_astore_n (j := 2) hd hj (hpS (k := 1) rfl hp) k
theorem aw_ast2w {r i : Nat} {a0 a1 b : Option AV} {t : List (Option AV)} (hd : Dc M pc (.astore 2) 2 pc2) (k : AWq l E d M Z0 pc2 (a0 :: a1 :: some (vr r i) :: t) st I L R Z Q) (hj : 2 < M.2.2.1 := by decide) (hp : isLg a1 = false := by rfl) : AWq l E d M Z0 pc (a0 :: a1 :: b :: t) (vr r i :: st) I L R Z Q :=
  aw_astore (j := 2) hd hj (hpS (k := 1) rfl hp) k
theorem aw_inc2 {x v : Int32} {n : Int} {a0 a1 : Option AV} {t : List (Option AV)} (hd : Dc M pc (.iinc 2 n) 3 pc2) (hv : x + Int32.ofInt n = v) (k : AWq l E d M Z0 pc2 (a0 :: a1 :: some (vi v) :: t) st I L R Z Q) (hj : 2 < M.2.2.1 := by decide) (hp : isLg a1 = false := by rfl) : AWq l E d M Z0 pc (a0 :: a1 :: some (vi x) :: t) st I L R Z Q :=
  aw_iinc hd rfl hj (hpS (k := 1) rfl hp) hv k
theorem aw_lst2 {x : Int64} {a0 a1 b b2 : Option AV} {t : List (Option AV)} (hd : Dc M pc (.lstore_n 2) 1 pc2) (k : AWq l E d M Z0 pc2 (a0 :: a1 :: some (vl x) :: none :: t) st I L R Z Q) (hj : 2 + 1 < M.2.2.1 := by decide) (hp : isLg a1 = false := by rfl) : AWq l E d M Z0 pc (a0 :: a1 :: b :: b2 :: t) (vl x :: st) I L R Z Q :=
  aw_lstore_n (j := 2) hd hj (hpS (k := 1) rfl hp) k
theorem aw_lst2w {x : Int64} {a0 a1 b b2 : Option AV} {t : List (Option AV)} (hd : Dc M pc (.lstore 2) 2 pc2) (k : AWq l E d M Z0 pc2 (a0 :: a1 :: some (vl x) :: none :: t) st I L R Z Q) (hj : 2 + 1 < M.2.2.1 := by decide) (hp : isLg a1 = false := by rfl) : AWq l E d M Z0 pc (a0 :: a1 :: b :: b2 :: t) (vl x :: st) I L R Z Q :=
  aw_lstore (j := 2) hd hj (hpS (k := 1) rfl hp) k
theorem aw_ist3 {x : Int32} {a0 a1 a2 b : Option AV} {t : List (Option AV)} (hd : Dc M pc (.istore_n 3) 1 pc2) (k : AWq l E d M Z0 pc2 (a0 :: a1 :: a2 :: some (vi x) :: t) st I L R Z Q) (hj : 3 < M.2.2.1 := by decide) (hp : isLg a2 = false := by rfl) : AWq l E d M Z0 pc (a0 :: a1 :: a2 :: b :: t) (vi x :: st) I L R Z Q :=
  aw_istore_n (j := 3) hd hj (hpS (k := 2) rfl hp) k
theorem aw_ist3w {x : Int32} {a0 a1 a2 b : Option AV} {t : List (Option AV)} (hd : Dc M pc (.istore 3) 2 pc2) (k : AWq l E d M Z0 pc2 (a0 :: a1 :: a2 :: some (vi x) :: t) st I L R Z Q) (hj : 3 < M.2.2.1 := by decide) (hp : isLg a2 = false := by rfl) : AWq l E d M Z0 pc (a0 :: a1 :: a2 :: b :: t) (vi x :: st) I L R Z Q :=
  aw_istore (j := 3) hd hj (hpS (k := 2) rfl hp) k
theorem aw_ast3 {r i : Nat} {a0 a1 a2 b : Option AV} {t : List (Option AV)} (hd : Dc M pc (.astore_n 3) 1 pc2) (k : AWq l E d M Z0 pc2 (a0 :: a1 :: a2 :: some (vr r i) :: t) st I L R Z Q) (hj : 3 < M.2.2.1 := by decide) (hp : isLg a2 = false := by rfl) : AWq l E d M Z0 pc (a0 :: a1 :: a2 :: b :: t) (vr r i :: st) I L R Z Q :=
  aw_astore_n (j := 3) hd hj (hpS (k := 2) rfl hp) k
theorem aw_ast3w {r i : Nat} {a0 a1 a2 b : Option AV} {t : List (Option AV)} (hd : Dc M pc (.astore 3) 2 pc2) (k : AWq l E d M Z0 pc2 (a0 :: a1 :: a2 :: some (vr r i) :: t) st I L R Z Q) (hj : 3 < M.2.2.1 := by decide) (hp : isLg a2 = false := by rfl) : AWq l E d M Z0 pc (a0 :: a1 :: a2 :: b :: t) (vr r i :: st) I L R Z Q :=
  aw_astore (j := 3) hd hj (hpS (k := 2) rfl hp) k
theorem aw_inc3 {x v : Int32} {n : Int} {a0 a1 a2 : Option AV} {t : List (Option AV)} (hd : Dc M pc (.iinc 3 n) 3 pc2) (hv : x + Int32.ofInt n = v) (k : AWq l E d M Z0 pc2 (a0 :: a1 :: a2 :: some (vi v) :: t) st I L R Z Q) (hj : 3 < M.2.2.1 := by decide) (hp : isLg a2 = false := by rfl) : AWq l E d M Z0 pc (a0 :: a1 :: a2 :: some (vi x) :: t) st I L R Z Q :=
  aw_iinc hd rfl hj (hpS (k := 2) rfl hp) hv k
theorem aw_lst3 {x : Int64} {a0 a1 a2 b b2 : Option AV} {t : List (Option AV)} (hd : Dc M pc (.lstore_n 3) 1 pc2) (k : AWq l E d M Z0 pc2 (a0 :: a1 :: a2 :: some (vl x) :: none :: t) st I L R Z Q) (hj : 3 + 1 < M.2.2.1 := by decide) (hp : isLg a2 = false := by rfl) : AWq l E d M Z0 pc (a0 :: a1 :: a2 :: b :: b2 :: t) (vl x :: st) I L R Z Q :=
  aw_lstore_n (j := 3) hd hj (hpS (k := 2) rfl hp) k
theorem aw_lst3w {x : Int64} {a0 a1 a2 b b2 : Option AV} {t : List (Option AV)} (hd : Dc M pc (.lstore 3) 2 pc2) (k : AWq l E d M Z0 pc2 (a0 :: a1 :: a2 :: some (vl x) :: none :: t) st I L R Z Q) (hj : 3 + 1 < M.2.2.1 := by decide) (hp : isLg a2 = false := by rfl) : AWq l E d M Z0 pc (a0 :: a1 :: a2 :: b :: b2 :: t) (vl x :: st) I L R Z Q :=
  aw_lstore (j := 3) hd hj (hpS (k := 2) rfl hp) k
theorem aw_ist4 {x : Int32} {a0 a1 a2 a3 b : Option AV} {t : List (Option AV)} (hd : Dc M pc (.istore 4) 2 pc2) (k : AWq l E d M Z0 pc2 (a0 :: a1 :: a2 :: a3 :: some (vi x) :: t) st I L R Z Q) (hj : 4 < M.2.2.1 := by decide) (hp : isLg a3 = false := by rfl) : AWq l E d M Z0 pc (a0 :: a1 :: a2 :: a3 :: b :: t) (vi x :: st) I L R Z Q :=
  aw_istore (j := 4) hd hj (hpS (k := 3) rfl hp) k
theorem aw_ast4 {r i : Nat} {a0 a1 a2 a3 b : Option AV} {t : List (Option AV)} (hd : Dc M pc (.astore 4) 2 pc2) (k : AWq l E d M Z0 pc2 (a0 :: a1 :: a2 :: a3 :: some (vr r i) :: t) st I L R Z Q) (hj : 4 < M.2.2.1 := by decide) (hp : isLg a3 = false := by rfl) : AWq l E d M Z0 pc (a0 :: a1 :: a2 :: a3 :: b :: t) (vr r i :: st) I L R Z Q :=
  aw_astore (j := 4) hd hj (hpS (k := 3) rfl hp) k
theorem aw_inc4 {x v : Int32} {n : Int} {a0 a1 a2 a3 : Option AV} {t : List (Option AV)} (hd : Dc M pc (.iinc 4 n) 3 pc2) (hv : x + Int32.ofInt n = v) (k : AWq l E d M Z0 pc2 (a0 :: a1 :: a2 :: a3 :: some (vi v) :: t) st I L R Z Q) (hj : 4 < M.2.2.1 := by decide) (hp : isLg a3 = false := by rfl) : AWq l E d M Z0 pc (a0 :: a1 :: a2 :: a3 :: some (vi x) :: t) st I L R Z Q :=
  aw_iinc hd rfl hj (hpS (k := 3) rfl hp) hv k
theorem aw_lst4 {x : Int64} {a0 a1 a2 a3 b b2 : Option AV} {t : List (Option AV)} (hd : Dc M pc (.lstore 4) 2 pc2) (k : AWq l E d M Z0 pc2 (a0 :: a1 :: a2 :: a3 :: some (vl x) :: none :: t) st I L R Z Q) (hj : 4 + 1 < M.2.2.1 := by decide) (hp : isLg a3 = false := by rfl) : AWq l E d M Z0 pc (a0 :: a1 :: a2 :: a3 :: b :: b2 :: t) (vl x :: st) I L R Z Q :=
  aw_lstore (j := 4) hd hj (hpS (k := 3) rfl hp) k
theorem aw_ist5 {x : Int32} {a0 a1 a2 a3 a4 b : Option AV} {t : List (Option AV)} (hd : Dc M pc (.istore 5) 2 pc2) (k : AWq l E d M Z0 pc2 (a0 :: a1 :: a2 :: a3 :: a4 :: some (vi x) :: t) st I L R Z Q) (hj : 5 < M.2.2.1 := by decide) (hp : isLg a4 = false := by rfl) : AWq l E d M Z0 pc (a0 :: a1 :: a2 :: a3 :: a4 :: b :: t) (vi x :: st) I L R Z Q :=
  aw_istore (j := 5) hd hj (hpS (k := 4) rfl hp) k
theorem aw_ast5 {r i : Nat} {a0 a1 a2 a3 a4 b : Option AV} {t : List (Option AV)} (hd : Dc M pc (.astore 5) 2 pc2) (k : AWq l E d M Z0 pc2 (a0 :: a1 :: a2 :: a3 :: a4 :: some (vr r i) :: t) st I L R Z Q) (hj : 5 < M.2.2.1 := by decide) (hp : isLg a4 = false := by rfl) : AWq l E d M Z0 pc (a0 :: a1 :: a2 :: a3 :: a4 :: b :: t) (vr r i :: st) I L R Z Q :=
  aw_astore (j := 5) hd hj (hpS (k := 4) rfl hp) k
theorem aw_inc5 {x v : Int32} {n : Int} {a0 a1 a2 a3 a4 : Option AV} {t : List (Option AV)} (hd : Dc M pc (.iinc 5 n) 3 pc2) (hv : x + Int32.ofInt n = v) (k : AWq l E d M Z0 pc2 (a0 :: a1 :: a2 :: a3 :: a4 :: some (vi v) :: t) st I L R Z Q) (hj : 5 < M.2.2.1 := by decide) (hp : isLg a4 = false := by rfl) : AWq l E d M Z0 pc (a0 :: a1 :: a2 :: a3 :: a4 :: some (vi x) :: t) st I L R Z Q :=
  aw_iinc hd rfl hj (hpS (k := 4) rfl hp) hv k
theorem aw_lst5 {x : Int64} {a0 a1 a2 a3 a4 b b2 : Option AV} {t : List (Option AV)} (hd : Dc M pc (.lstore 5) 2 pc2) (k : AWq l E d M Z0 pc2 (a0 :: a1 :: a2 :: a3 :: a4 :: some (vl x) :: none :: t) st I L R Z Q) (hj : 5 + 1 < M.2.2.1 := by decide) (hp : isLg a4 = false := by rfl) : AWq l E d M Z0 pc (a0 :: a1 :: a2 :: a3 :: a4 :: b :: b2 :: t) (vl x :: st) I L R Z Q :=
  aw_lstore (j := 5) hd hj (hpS (k := 4) rfl hp) k
theorem aw_ist6 {x : Int32} {a0 a1 a2 a3 a4 a5 b : Option AV} {t : List (Option AV)} (hd : Dc M pc (.istore 6) 2 pc2) (k : AWq l E d M Z0 pc2 (a0 :: a1 :: a2 :: a3 :: a4 :: a5 :: some (vi x) :: t) st I L R Z Q) (hj : 6 < M.2.2.1 := by decide) (hp : isLg a5 = false := by rfl) : AWq l E d M Z0 pc (a0 :: a1 :: a2 :: a3 :: a4 :: a5 :: b :: t) (vi x :: st) I L R Z Q :=
  aw_istore (j := 6) hd hj (hpS (k := 5) rfl hp) k
theorem aw_ast6 {r i : Nat} {a0 a1 a2 a3 a4 a5 b : Option AV} {t : List (Option AV)} (hd : Dc M pc (.astore 6) 2 pc2) (k : AWq l E d M Z0 pc2 (a0 :: a1 :: a2 :: a3 :: a4 :: a5 :: some (vr r i) :: t) st I L R Z Q) (hj : 6 < M.2.2.1 := by decide) (hp : isLg a5 = false := by rfl) : AWq l E d M Z0 pc (a0 :: a1 :: a2 :: a3 :: a4 :: a5 :: b :: t) (vr r i :: st) I L R Z Q :=
  aw_astore (j := 6) hd hj (hpS (k := 5) rfl hp) k
theorem aw_inc6 {x v : Int32} {n : Int} {a0 a1 a2 a3 a4 a5 : Option AV} {t : List (Option AV)} (hd : Dc M pc (.iinc 6 n) 3 pc2) (hv : x + Int32.ofInt n = v) (k : AWq l E d M Z0 pc2 (a0 :: a1 :: a2 :: a3 :: a4 :: a5 :: some (vi v) :: t) st I L R Z Q) (hj : 6 < M.2.2.1 := by decide) (hp : isLg a5 = false := by rfl) : AWq l E d M Z0 pc (a0 :: a1 :: a2 :: a3 :: a4 :: a5 :: some (vi x) :: t) st I L R Z Q :=
  aw_iinc hd rfl hj (hpS (k := 5) rfl hp) hv k
theorem aw_lst6 {x : Int64} {a0 a1 a2 a3 a4 a5 b b2 : Option AV} {t : List (Option AV)} (hd : Dc M pc (.lstore 6) 2 pc2) (k : AWq l E d M Z0 pc2 (a0 :: a1 :: a2 :: a3 :: a4 :: a5 :: some (vl x) :: none :: t) st I L R Z Q) (hj : 6 + 1 < M.2.2.1 := by decide) (hp : isLg a5 = false := by rfl) : AWq l E d M Z0 pc (a0 :: a1 :: a2 :: a3 :: a4 :: a5 :: b :: b2 :: t) (vl x :: st) I L R Z Q :=
  aw_lstore (j := 6) hd hj (hpS (k := 5) rfl hp) k
theorem aw_ist7 {x : Int32} {a0 a1 a2 a3 a4 a5 a6 b : Option AV} {t : List (Option AV)} (hd : Dc M pc (.istore 7) 2 pc2) (k : AWq l E d M Z0 pc2 (a0 :: a1 :: a2 :: a3 :: a4 :: a5 :: a6 :: some (vi x) :: t) st I L R Z Q) (hj : 7 < M.2.2.1 := by decide) (hp : isLg a6 = false := by rfl) : AWq l E d M Z0 pc (a0 :: a1 :: a2 :: a3 :: a4 :: a5 :: a6 :: b :: t) (vi x :: st) I L R Z Q :=
  aw_istore (j := 7) hd hj (hpS (k := 6) rfl hp) k
theorem aw_ast7 {r i : Nat} {a0 a1 a2 a3 a4 a5 a6 b : Option AV} {t : List (Option AV)} (hd : Dc M pc (.astore 7) 2 pc2) (k : AWq l E d M Z0 pc2 (a0 :: a1 :: a2 :: a3 :: a4 :: a5 :: a6 :: some (vr r i) :: t) st I L R Z Q) (hj : 7 < M.2.2.1 := by decide) (hp : isLg a6 = false := by rfl) : AWq l E d M Z0 pc (a0 :: a1 :: a2 :: a3 :: a4 :: a5 :: a6 :: b :: t) (vr r i :: st) I L R Z Q :=
  aw_astore (j := 7) hd hj (hpS (k := 6) rfl hp) k
theorem aw_inc7 {x v : Int32} {n : Int} {a0 a1 a2 a3 a4 a5 a6 : Option AV} {t : List (Option AV)} (hd : Dc M pc (.iinc 7 n) 3 pc2) (hv : x + Int32.ofInt n = v) (k : AWq l E d M Z0 pc2 (a0 :: a1 :: a2 :: a3 :: a4 :: a5 :: a6 :: some (vi v) :: t) st I L R Z Q) (hj : 7 < M.2.2.1 := by decide) (hp : isLg a6 = false := by rfl) : AWq l E d M Z0 pc (a0 :: a1 :: a2 :: a3 :: a4 :: a5 :: a6 :: some (vi x) :: t) st I L R Z Q :=
  aw_iinc hd rfl hj (hpS (k := 6) rfl hp) hv k
theorem aw_lst7 {x : Int64} {a0 a1 a2 a3 a4 a5 a6 b b2 : Option AV} {t : List (Option AV)} (hd : Dc M pc (.lstore 7) 2 pc2) (k : AWq l E d M Z0 pc2 (a0 :: a1 :: a2 :: a3 :: a4 :: a5 :: a6 :: some (vl x) :: none :: t) st I L R Z Q) (hj : 7 + 1 < M.2.2.1 := by decide) (hp : isLg a6 = false := by rfl) : AWq l E d M Z0 pc (a0 :: a1 :: a2 :: a3 :: a4 :: a5 :: a6 :: b :: b2 :: t) (vl x :: st) I L R Z Q :=
  aw_lstore (j := 7) hd hj (hpS (k := 6) rfl hp) k
theorem aw_ist8 {x : Int32} {a0 a1 a2 a3 a4 a5 a6 a7 b : Option AV} {t : List (Option AV)} (hd : Dc M pc (.istore 8) 2 pc2) (k : AWq l E d M Z0 pc2 (a0 :: a1 :: a2 :: a3 :: a4 :: a5 :: a6 :: a7 :: some (vi x) :: t) st I L R Z Q) (hj : 8 < M.2.2.1 := by decide) (hp : isLg a7 = false := by rfl) : AWq l E d M Z0 pc (a0 :: a1 :: a2 :: a3 :: a4 :: a5 :: a6 :: a7 :: b :: t) (vi x :: st) I L R Z Q :=
  aw_istore (j := 8) hd hj (hpS (k := 7) rfl hp) k
theorem aw_ast8 {r i : Nat} {a0 a1 a2 a3 a4 a5 a6 a7 b : Option AV} {t : List (Option AV)} (hd : Dc M pc (.astore 8) 2 pc2) (k : AWq l E d M Z0 pc2 (a0 :: a1 :: a2 :: a3 :: a4 :: a5 :: a6 :: a7 :: some (vr r i) :: t) st I L R Z Q) (hj : 8 < M.2.2.1 := by decide) (hp : isLg a7 = false := by rfl) : AWq l E d M Z0 pc (a0 :: a1 :: a2 :: a3 :: a4 :: a5 :: a6 :: a7 :: b :: t) (vr r i :: st) I L R Z Q :=
  aw_astore (j := 8) hd hj (hpS (k := 7) rfl hp) k
theorem aw_inc8 {x v : Int32} {n : Int} {a0 a1 a2 a3 a4 a5 a6 a7 : Option AV} {t : List (Option AV)} (hd : Dc M pc (.iinc 8 n) 3 pc2) (hv : x + Int32.ofInt n = v) (k : AWq l E d M Z0 pc2 (a0 :: a1 :: a2 :: a3 :: a4 :: a5 :: a6 :: a7 :: some (vi v) :: t) st I L R Z Q) (hj : 8 < M.2.2.1 := by decide) (hp : isLg a7 = false := by rfl) : AWq l E d M Z0 pc (a0 :: a1 :: a2 :: a3 :: a4 :: a5 :: a6 :: a7 :: some (vi x) :: t) st I L R Z Q :=
  aw_iinc hd rfl hj (hpS (k := 7) rfl hp) hv k
theorem aw_lst8 {x : Int64} {a0 a1 a2 a3 a4 a5 a6 a7 b b2 : Option AV} {t : List (Option AV)} (hd : Dc M pc (.lstore 8) 2 pc2) (k : AWq l E d M Z0 pc2 (a0 :: a1 :: a2 :: a3 :: a4 :: a5 :: a6 :: a7 :: some (vl x) :: none :: t) st I L R Z Q) (hj : 8 + 1 < M.2.2.1 := by decide) (hp : isLg a7 = false := by rfl) : AWq l E d M Z0 pc (a0 :: a1 :: a2 :: a3 :: a4 :: a5 :: a6 :: a7 :: b :: b2 :: t) (vl x :: st) I L R Z Q :=
  aw_lstore (j := 8) hd hj (hpS (k := 7) rfl hp) k
theorem aw_ist9 {x : Int32} {a0 a1 a2 a3 a4 a5 a6 a7 a8 b : Option AV} {t : List (Option AV)} (hd : Dc M pc (.istore 9) 2 pc2) (k : AWq l E d M Z0 pc2 (a0 :: a1 :: a2 :: a3 :: a4 :: a5 :: a6 :: a7 :: a8 :: some (vi x) :: t) st I L R Z Q) (hj : 9 < M.2.2.1 := by decide) (hp : isLg a8 = false := by rfl) : AWq l E d M Z0 pc (a0 :: a1 :: a2 :: a3 :: a4 :: a5 :: a6 :: a7 :: a8 :: b :: t) (vi x :: st) I L R Z Q :=
  aw_istore (j := 9) hd hj (hpS (k := 8) rfl hp) k
theorem aw_ast9 {r i : Nat} {a0 a1 a2 a3 a4 a5 a6 a7 a8 b : Option AV} {t : List (Option AV)} (hd : Dc M pc (.astore 9) 2 pc2) (k : AWq l E d M Z0 pc2 (a0 :: a1 :: a2 :: a3 :: a4 :: a5 :: a6 :: a7 :: a8 :: some (vr r i) :: t) st I L R Z Q) (hj : 9 < M.2.2.1 := by decide) (hp : isLg a8 = false := by rfl) : AWq l E d M Z0 pc (a0 :: a1 :: a2 :: a3 :: a4 :: a5 :: a6 :: a7 :: a8 :: b :: t) (vr r i :: st) I L R Z Q :=
  aw_astore (j := 9) hd hj (hpS (k := 8) rfl hp) k
theorem aw_inc9 {x v : Int32} {n : Int} {a0 a1 a2 a3 a4 a5 a6 a7 a8 : Option AV} {t : List (Option AV)} (hd : Dc M pc (.iinc 9 n) 3 pc2) (hv : x + Int32.ofInt n = v) (k : AWq l E d M Z0 pc2 (a0 :: a1 :: a2 :: a3 :: a4 :: a5 :: a6 :: a7 :: a8 :: some (vi v) :: t) st I L R Z Q) (hj : 9 < M.2.2.1 := by decide) (hp : isLg a8 = false := by rfl) : AWq l E d M Z0 pc (a0 :: a1 :: a2 :: a3 :: a4 :: a5 :: a6 :: a7 :: a8 :: some (vi x) :: t) st I L R Z Q :=
  aw_iinc hd rfl hj (hpS (k := 8) rfl hp) hv k
theorem aw_lst9 {x : Int64} {a0 a1 a2 a3 a4 a5 a6 a7 a8 b b2 : Option AV} {t : List (Option AV)} (hd : Dc M pc (.lstore 9) 2 pc2) (k : AWq l E d M Z0 pc2 (a0 :: a1 :: a2 :: a3 :: a4 :: a5 :: a6 :: a7 :: a8 :: some (vl x) :: none :: t) st I L R Z Q) (hj : 9 + 1 < M.2.2.1 := by decide) (hp : isLg a8 = false := by rfl) : AWq l E d M Z0 pc (a0 :: a1 :: a2 :: a3 :: a4 :: a5 :: a6 :: a7 :: a8 :: b :: b2 :: t) (vl x :: st) I L R Z Q :=
  aw_lstore (j := 9) hd hj (hpS (k := 8) rfl hp) k
theorem aw_ist10 {x : Int32} {a0 a1 a2 a3 a4 a5 a6 a7 a8 a9 b : Option AV} {t : List (Option AV)} (hd : Dc M pc (.istore 10) 2 pc2) (k : AWq l E d M Z0 pc2 (a0 :: a1 :: a2 :: a3 :: a4 :: a5 :: a6 :: a7 :: a8 :: a9 :: some (vi x) :: t) st I L R Z Q) (hj : 10 < M.2.2.1 := by decide) (hp : isLg a9 = false := by rfl) : AWq l E d M Z0 pc (a0 :: a1 :: a2 :: a3 :: a4 :: a5 :: a6 :: a7 :: a8 :: a9 :: b :: t) (vi x :: st) I L R Z Q :=
  aw_istore (j := 10) hd hj (hpS (k := 9) rfl hp) k
theorem aw_ast10 {r i : Nat} {a0 a1 a2 a3 a4 a5 a6 a7 a8 a9 b : Option AV} {t : List (Option AV)} (hd : Dc M pc (.astore 10) 2 pc2) (k : AWq l E d M Z0 pc2 (a0 :: a1 :: a2 :: a3 :: a4 :: a5 :: a6 :: a7 :: a8 :: a9 :: some (vr r i) :: t) st I L R Z Q) (hj : 10 < M.2.2.1 := by decide) (hp : isLg a9 = false := by rfl) : AWq l E d M Z0 pc (a0 :: a1 :: a2 :: a3 :: a4 :: a5 :: a6 :: a7 :: a8 :: a9 :: b :: t) (vr r i :: st) I L R Z Q :=
  aw_astore (j := 10) hd hj (hpS (k := 9) rfl hp) k
theorem aw_inc10 {x v : Int32} {n : Int} {a0 a1 a2 a3 a4 a5 a6 a7 a8 a9 : Option AV} {t : List (Option AV)} (hd : Dc M pc (.iinc 10 n) 3 pc2) (hv : x + Int32.ofInt n = v) (k : AWq l E d M Z0 pc2 (a0 :: a1 :: a2 :: a3 :: a4 :: a5 :: a6 :: a7 :: a8 :: a9 :: some (vi v) :: t) st I L R Z Q) (hj : 10 < M.2.2.1 := by decide) (hp : isLg a9 = false := by rfl) : AWq l E d M Z0 pc (a0 :: a1 :: a2 :: a3 :: a4 :: a5 :: a6 :: a7 :: a8 :: a9 :: some (vi x) :: t) st I L R Z Q :=
  aw_iinc hd rfl hj (hpS (k := 9) rfl hp) hv k
theorem aw_lst10 {x : Int64} {a0 a1 a2 a3 a4 a5 a6 a7 a8 a9 b b2 : Option AV} {t : List (Option AV)} (hd : Dc M pc (.lstore 10) 2 pc2) (k : AWq l E d M Z0 pc2 (a0 :: a1 :: a2 :: a3 :: a4 :: a5 :: a6 :: a7 :: a8 :: a9 :: some (vl x) :: none :: t) st I L R Z Q) (hj : 10 + 1 < M.2.2.1 := by decide) (hp : isLg a9 = false := by rfl) : AWq l E d M Z0 pc (a0 :: a1 :: a2 :: a3 :: a4 :: a5 :: a6 :: a7 :: a8 :: a9 :: b :: b2 :: t) (vl x :: st) I L R Z Q :=
  aw_lstore (j := 10) hd hj (hpS (k := 9) rfl hp) k
theorem aw_ist11 {x : Int32} {a0 a1 a2 a3 a4 a5 a6 a7 a8 a9 a10 b : Option AV} {t : List (Option AV)} (hd : Dc M pc (.istore 11) 2 pc2) (k : AWq l E d M Z0 pc2 (a0 :: a1 :: a2 :: a3 :: a4 :: a5 :: a6 :: a7 :: a8 :: a9 :: a10 :: some (vi x) :: t) st I L R Z Q) (hj : 11 < M.2.2.1 := by decide) (hp : isLg a10 = false := by rfl) : AWq l E d M Z0 pc (a0 :: a1 :: a2 :: a3 :: a4 :: a5 :: a6 :: a7 :: a8 :: a9 :: a10 :: b :: t) (vi x :: st) I L R Z Q :=
  aw_istore (j := 11) hd hj (hpS (k := 10) rfl hp) k
theorem aw_ast11 {r i : Nat} {a0 a1 a2 a3 a4 a5 a6 a7 a8 a9 a10 b : Option AV} {t : List (Option AV)} (hd : Dc M pc (.astore 11) 2 pc2) (k : AWq l E d M Z0 pc2 (a0 :: a1 :: a2 :: a3 :: a4 :: a5 :: a6 :: a7 :: a8 :: a9 :: a10 :: some (vr r i) :: t) st I L R Z Q) (hj : 11 < M.2.2.1 := by decide) (hp : isLg a10 = false := by rfl) : AWq l E d M Z0 pc (a0 :: a1 :: a2 :: a3 :: a4 :: a5 :: a6 :: a7 :: a8 :: a9 :: a10 :: b :: t) (vr r i :: st) I L R Z Q :=
  aw_astore (j := 11) hd hj (hpS (k := 10) rfl hp) k
theorem aw_inc11 {x v : Int32} {n : Int} {a0 a1 a2 a3 a4 a5 a6 a7 a8 a9 a10 : Option AV} {t : List (Option AV)} (hd : Dc M pc (.iinc 11 n) 3 pc2) (hv : x + Int32.ofInt n = v) (k : AWq l E d M Z0 pc2 (a0 :: a1 :: a2 :: a3 :: a4 :: a5 :: a6 :: a7 :: a8 :: a9 :: a10 :: some (vi v) :: t) st I L R Z Q) (hj : 11 < M.2.2.1 := by decide) (hp : isLg a10 = false := by rfl) : AWq l E d M Z0 pc (a0 :: a1 :: a2 :: a3 :: a4 :: a5 :: a6 :: a7 :: a8 :: a9 :: a10 :: some (vi x) :: t) st I L R Z Q :=
  aw_iinc hd rfl hj (hpS (k := 10) rfl hp) hv k
theorem aw_lst11 {x : Int64} {a0 a1 a2 a3 a4 a5 a6 a7 a8 a9 a10 b b2 : Option AV} {t : List (Option AV)} (hd : Dc M pc (.lstore 11) 2 pc2) (k : AWq l E d M Z0 pc2 (a0 :: a1 :: a2 :: a3 :: a4 :: a5 :: a6 :: a7 :: a8 :: a9 :: a10 :: some (vl x) :: none :: t) st I L R Z Q) (hj : 11 + 1 < M.2.2.1 := by decide) (hp : isLg a10 = false := by rfl) : AWq l E d M Z0 pc (a0 :: a1 :: a2 :: a3 :: a4 :: a5 :: a6 :: a7 :: a8 :: a9 :: a10 :: b :: b2 :: t) (vl x :: st) I L R Z Q :=
  aw_lstore (j := 11) hd hj (hpS (k := 10) rfl hp) k
theorem aw_ist12 {x : Int32} {a0 a1 a2 a3 a4 a5 a6 a7 a8 a9 a10 a11 b : Option AV} {t : List (Option AV)} (hd : Dc M pc (.istore 12) 2 pc2) (k : AWq l E d M Z0 pc2 (a0 :: a1 :: a2 :: a3 :: a4 :: a5 :: a6 :: a7 :: a8 :: a9 :: a10 :: a11 :: some (vi x) :: t) st I L R Z Q) (hj : 12 < M.2.2.1 := by decide) (hp : isLg a11 = false := by rfl) : AWq l E d M Z0 pc (a0 :: a1 :: a2 :: a3 :: a4 :: a5 :: a6 :: a7 :: a8 :: a9 :: a10 :: a11 :: b :: t) (vi x :: st) I L R Z Q :=
  aw_istore (j := 12) hd hj (hpS (k := 11) rfl hp) k
theorem aw_ast12 {r i : Nat} {a0 a1 a2 a3 a4 a5 a6 a7 a8 a9 a10 a11 b : Option AV} {t : List (Option AV)} (hd : Dc M pc (.astore 12) 2 pc2) (k : AWq l E d M Z0 pc2 (a0 :: a1 :: a2 :: a3 :: a4 :: a5 :: a6 :: a7 :: a8 :: a9 :: a10 :: a11 :: some (vr r i) :: t) st I L R Z Q) (hj : 12 < M.2.2.1 := by decide) (hp : isLg a11 = false := by rfl) : AWq l E d M Z0 pc (a0 :: a1 :: a2 :: a3 :: a4 :: a5 :: a6 :: a7 :: a8 :: a9 :: a10 :: a11 :: b :: t) (vr r i :: st) I L R Z Q :=
  aw_astore (j := 12) hd hj (hpS (k := 11) rfl hp) k
theorem aw_inc12 {x v : Int32} {n : Int} {a0 a1 a2 a3 a4 a5 a6 a7 a8 a9 a10 a11 : Option AV} {t : List (Option AV)} (hd : Dc M pc (.iinc 12 n) 3 pc2) (hv : x + Int32.ofInt n = v) (k : AWq l E d M Z0 pc2 (a0 :: a1 :: a2 :: a3 :: a4 :: a5 :: a6 :: a7 :: a8 :: a9 :: a10 :: a11 :: some (vi v) :: t) st I L R Z Q) (hj : 12 < M.2.2.1 := by decide) (hp : isLg a11 = false := by rfl) : AWq l E d M Z0 pc (a0 :: a1 :: a2 :: a3 :: a4 :: a5 :: a6 :: a7 :: a8 :: a9 :: a10 :: a11 :: some (vi x) :: t) st I L R Z Q :=
  aw_iinc hd rfl hj (hpS (k := 11) rfl hp) hv k
theorem aw_lst12 {x : Int64} {a0 a1 a2 a3 a4 a5 a6 a7 a8 a9 a10 a11 b b2 : Option AV} {t : List (Option AV)} (hd : Dc M pc (.lstore 12) 2 pc2) (k : AWq l E d M Z0 pc2 (a0 :: a1 :: a2 :: a3 :: a4 :: a5 :: a6 :: a7 :: a8 :: a9 :: a10 :: a11 :: some (vl x) :: none :: t) st I L R Z Q) (hj : 12 + 1 < M.2.2.1 := by decide) (hp : isLg a11 = false := by rfl) : AWq l E d M Z0 pc (a0 :: a1 :: a2 :: a3 :: a4 :: a5 :: a6 :: a7 :: a8 :: a9 :: a10 :: a11 :: b :: b2 :: t) (vl x :: st) I L R Z Q :=
  aw_lstore (j := 12) hd hj (hpS (k := 11) rfl hp) k
end RULES
