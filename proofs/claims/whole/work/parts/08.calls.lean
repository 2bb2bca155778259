/-! ===== calls ===== -/
def rst : Option AV → List AV → List AV
  | some v, st => v :: st
  | none, st => st
def MF (M : Mt) (n : Nat) : Prop := Cond.code M.1 M.2.1 M.2.2.1 M.2.2.2 ∈ G ∧ Cond.initialized M.1.cls ∈ G ∧ (M.1.cls ≠ "java/lang/invoke/MethodHandle" ∧ M.1.cls ≠ "java/lang/invoke/VarHandle" ∧ (parseMethodDescriptor M.1.desc).map (fun d => d.parameters.length) = some n) ∧ M.2.2.1 ≤ 21 ∧ plainFor M.1 = true
def MV (M : Mt) : Prop := Cond.instanceMethod M.1 ∈ G ∧ Cond.selects M.1.cls M.1 M.1 ∈ G
def MS (M : Mt) : Prop := Cond.static M.1 ∈ G
def MI (M : Mt) : Prop := Cond.instanceMethod M.1 ∈ G ∧ M.1.name = "<init>" ∧ M.2.2.2 = none
def wd (v : AV) : Nat := if isLg (some v) then 2 else 1
theorem wd_cat (E : En) (v : AV) : (cv E v).category = wd v := by
  match v with
  | .inl _ => rfl
  | .inr (.inl _) => rfl
  | .inr (.inr none) => rfl
  | .inr (.inr (some _)) => rfl
theorem wd_sum (E : En) (st : List AV) : ((st.map (cv E)).map fun v => v.category).sum = (st.map wd).sum := by
  rw [List.map_map]
  congr 1
  exact List.map_congr_left (fun v _ => wd_cat E v)
theorem PcM.blind {E : En} {as : List AV} {I : It} {L : Lt} {R : Rt} {Z : Zt} : FrameBlind (PcM E as I L R Z) := fun a U g mk h => by
  obtain ⟨h1, h2, h3, h4⟩ := h
  exact ⟨h1, StF.same (s := U) rfl h2, h3, h4⟩
theorem goodM {M : Mt} {n : Nat} (h : MF M n) : GoodIn G (wsM M) := fun w hw => by
  rcases List.mem_cons.mp hw with rfl | h1
  · exact ⟨h.1, G_good _ h.1⟩
  · exact ⟨h1, G_good _ h1⟩
section ENTRY
variable {l : Launch} {E : En} {d : Nat} {M : Mt} {I : It} {L : Lt} {R : Rt} {Z : Zt} {Q : Qt}
/-- the locals at a method's entry -/
def lE : List AV → List (Option AV)
  | [] => []
  | v :: t => if isLg (some v) then some v :: none :: lE t else some v :: lE t
theorem lE_args (E : En) : ∀ (as : List AV) (k : Nat), lv_args k (as.map (cv E)) = (lvP (lE as) k).map fun q => (q.1, cv E q.2)
  | [], k => rfl
  | v :: t, k => by
    by_cases h : isLg (some v) = true
    · have h2 : (cv E v).category = 2 := (cv_cat E v).mpr h
      unfold lE
      rw [if_pos h]
      simp only [List.map_cons, lv_args, lvP, h2, Nat.add_assoc]
      rw [if_pos trivial, lE_args E t (k + 2)]
    · have h3 : isLg (some v) = false := by simpa using h
      have h2 : (cv E v).category = 1 := cat1 E h3
      unfold lE
      rw [if_neg h]
      simp only [List.map_cons, lv_args, lvP, h2]
      rw [if_neg (by decide), lE_args E t (k + 1)]
theorem lvP_rep (n k : Nat) : lvP (List.replicate n none) k = [] := by
  induction n generalizing k with
  | zero => rfl
  | succ n ih => rw [List.replicate_succ]; exact ih (k + 1)
theorem lvP_app (a b : List (Option AV)) (k : Nat) : lvP (a ++ b) k = lvP a k ++ lvP b (k + a.length) := by
  induction a generalizing k with
  | nil => rfl
  | cons x t ih =>
    cases x with
    | none =>
      show lvP (t ++ b) (k + 1) = lvP t (k + 1) ++ _
      rw [ih, List.length_cons]
      congr 2
      omega
    | some v =>
      show (k, v) :: lvP (t ++ b) (k + 1) = (k, v) :: lvP t (k + 1) ++ _
      rw [ih, List.length_cons, List.cons_append]
      congr 3
      omega
theorem lE_mem {v : AV} : ∀ (as : List AV), some v ∈ lE as → v ∈ as
  | [], h => by cases h
  | w :: t, h => by
    unfold lE at h
    split at h
    · rcases List.mem_cons.mp h with e | h
      · cases e
        exact List.mem_cons_self
      · rcases List.mem_cons.mp h with e | h
        · cases e
        · exact List.mem_cons_of_mem _ (lE_mem t h)
    · rcases List.mem_cons.mp h with e | h
      · cases e
        exact List.mem_cons_self
      · exact List.mem_cons_of_mem _ (lE_mem t h)
theorem lE_len (E : En) : ∀ (as : List AV), (lg_sl (as.map (cv E))).length = (lE as).length
  | [] => rfl
  | v :: t => by
    have ih := lE_len E t
    by_cases h : isLg (some v) = true
    · have h2 : (cv E v).category = 2 := (cv_cat E v).mpr h
      unfold lE
      rw [if_pos h]
      simp [lg_sl, h2] at ih ⊢
      omega
    · have h3 : isLg (some v) = false := by simpa using h
      have h2 : (cv E v).category = 1 := cat1 E h3
      unfold lE
      rw [if_neg h]
      simp [lg_sl, h2] at ih ⊢
      omega
/-- a contract out of a walk from the entry -/
theorem AMet.of {as : List AV} {n : Nat} (hf : MF M n) {ls : List (Option AV)} (hls : lE as ++ List.replicate (M.2.2.1 - (lE as).length) none = ls) (hle : (lE as).length ≤ M.2.2.1) (k : AWq l E d M Z 0 ls [] I L R Z Q) : AMet l E d M as I L R Z Q := by
  obtain ⟨r, I2, L2, R2, Z2, hq, hz, k⟩ := k
  refine ⟨r, I2, L2, R2, Z2, hq, hz, ?_⟩
  refine va_MetF (cc := M.2.1) (maxL := M.2.2.1) (ret := M.2.2.2) hf.2.2.2.2 rfl ?_
  intro p e s m args below meth c s₁ B hml hv
  obtain ⟨rfl, hSt, hW, hvv⟩ := hv
  have hts := atoms_spec (ws := wsM M) B.pre
  have F : Fx E d M p (headSpec (wsM M) (rmM d (Z2.2.1 - Z.2.1) (Z2.2.2 - Z.2.2))).room s m (as.map (cv E)).toArray meth c := ⟨B.exec, B.bytes, hml, findClass_of_methodNamed B.named, fun w hw => hts w (List.mem_cons_of_mem _ hw), hSt, B.returns, B.notSynchronized, (name_of_methodNamed B.named B.method).1, Nat.le_refl _, Nat.le_refl _, by rw [hW.1]; omega⟩
  have hl := lv_entry (as.map (cv E)) (n := M.2.2.1) (by rw [lE_len]; exact hle)
  rw [lg_entry_eq]
  generalize (lg_sl (as.map (cv E)) ++ List.replicate (M.2.2.1 - (lg_sl (as.map (cv E))).length) Slot.unset).toArray = als at hl ⊢
  have hl2 : lvH E als M.2.2.1 ls := by
    refine ⟨?_, ?_⟩
    · rw [lE_args] at hl
      rw [← hls, lvP_app, lvP_rep, List.append_nil]
      exact hl
    · rw [← hls, List.length_append, List.length_replicate]
      omega
  have h := k p e _ s m _ below meth c F (Nat.le_refl _) (Nat.le_refl _) (Nat.le_refl _) (Nat.le_refl _) als s.heap [] hl2 (fun v hv => by cases hv) (fun v hv => by
    rw [← hls] at hv
    rcases List.mem_append.mp hv with h1 | h1
    · exact hvv v (lE_mem as h1)
    · have := (List.mem_replicate.mp h1).2
      cases this) hW va_S.rf
  rw [Nat.sub_self, Nat.sub_self] at h
  exact h
end ENTRY
section CALLS
variable {l : Launch} {E : En} {d : Nat} {M M2 : Mt} {Z0 : Zt} {pc pc2 tgt n : Nat} {ls : List (Option AV)} {st : List AV} {I : It} {L : Lt} {R : Rt} {Z : Zt} {Q : Qt}
theorem callG {p : Program} {e : Env} {Rm : Room} {s : State} {m : MethodId} {args : Array Value} {below : List Frame} {meth : Method} {c : Code} {H : Heap} {locs : List Loc} {cells slots mc ms : Nat} {Qs : State → Prop} {als : Array Slot} {st0 rest : List Value} {a : Array Value} {r : Option AV} {I1 : It} {L1 : Lt} {R1 : Rt} {Z1 : Zt}
    (hr : va_Run p l e Rm s m args below meth c H locs cells slots mc ms (F0 m pc als st0) rest (QcM E r I1 L1 R1 Z1 a) (Af E)) (hS : va_S (Af E) s.heap H locs)
    (kk : ∀ (H1 : Heap) (locs1 : List Loc), Wo E I1 L1 R1 Z1 H1 → (∀ v, r = some v → vv Z1 v) → va_S (Af E) s.heap H1 locs1 → W p l e Rm s m args below meth c H1 locs1 (cells + mc) (slots + ms) Qs (F0 m (pc + 3) als ((r.map (cv E)).toList ++ rest))) : W p l e Rm s m args below meth c H locs cells slots Qs (F0 m pc als st0) := by
  intro T hT X
  obtain ⟨v, st₀, t, T', L, h0, X', hL, e1, e2, ⟨hv, hw, hvv, hz, hk⟩, st⟩ := hr T hT X
  cases hv
  rw [h0] at hz hk
  obtain ⟨t2, a1, b1⟩ := kk T'.heap (locs ++ L) (by rw [e1]; exact hw) hvv
    ⟨Nat.le_trans hS.1 (by rw [e1]; exact hz), fun q h1 h2 => by rw [e1, hk q (Nat.lt_of_lt_of_le h1 hS.1) h2]; exact hS.2.1 q h1 h2, fun q hq => by
      rcases List.mem_append.mp hq with h | h
      · exact hS.2.2 q h
      · exact hL q h⟩ T' rfl X'
  exact ⟨t2, st t2 a1, b1⟩
theorem StF.at {s U : State} {H : Heap} {locs : List Loc} (h : StF E s s.heap) (hB : E.2.2.1 ≤ s.heap.size) (hS : va_S (Af E) s.heap H locs) (hU : U.heap = H) (hw : s.WarmedH U.vm) : StF E U U.heap := by
  rw [hU]
  exact (h.kept (H1 := H) (fun a h1 h2 => hS.2.1 a h1 h2) hB).moved hw
/-- what is behind a call -/
theorem AWq.call {as stk : List AV} (hm : AMet l E d M2 as I L R Z (fun r I1 L1 R1 Z1 => AWq l E (d + 1) M Z0 (pc + 3) ls (rst r st) I1 L1 R1 Z1 Q)) (hst : ∀ v, (∀ w ∈ stk, vv Z w) → v ∈ st → vv Z v)
    (hrun : ∀ (p : Program) (e : Env) (Rm : Room) (s : State) (m : MethodId) (args : Array Value) (below : List Frame) (meth : Method) (c : Code), Fx E (d + 1) M p Rm s m args meth c → ∀ (als : Array Slot) (H : Heap) (locs : List Loc) (cells slots mc ms : Nat) (Qc : Array Value → State → Outcome → State → Prop), als.size = M.2.2.1 → (∀ v ∈ stk, vv Z v) → Wo E I L R Z H → va_S (Af E) s.heap H locs → cells + mc ≤ Rm.cells ∧ slots + ms ≤ Rm.slots →
      Met l M2.1 (wsM M2) (rmM d mc ms) (PcM E as I L R Z) Qc mc ms (Af E) → va_Run p l e Rm s m args below meth c H locs cells slots mc ms (F0 m pc als (stk.map (cv E))) (st.map (cv E)) (Qc (as.map (cv E)).toArray) (Af E)) :
    AWq l E (d + 1) M Z0 pc ls stk I L R Z Q := by
  obtain ⟨r, I1, L1, R1, Z1, ⟨r2, I2, L2, R2, Z2, hq, hz2, k⟩, hz, hM⟩ := hm
  refine ⟨r2, I2, L2, R2, Z2, hq, ⟨Nat.le_trans hz.1 hz2.1, Nat.le_trans hz.2 hz2.2⟩, fun p e Rm s m args below meth c F h1 h2 h3 h4 als H locs hl v1 v2 hW hS => ?_⟩
  have hru := hrun p e Rm s m args below meth c F als H locs (Z.2.1 - Z0.2.1) (Z.2.2 - Z0.2.2) _ _ _ hl.1.1 v1 hW hS ⟨by have := hz.1; have := hz2.1; omega, by have := hz.2; have := hz2.2; omega⟩ hM
  refine callG hru hS (fun H1 locs1 hW1 hv1 hS1 => ?_)
  have e1 : Z.2.1 - Z0.2.1 + (Z1.2.1 - Z.2.1) = Z1.2.1 - Z0.2.1 := by have := hz.1; omega
  have e2 : Z.2.2 - Z0.2.2 + (Z1.2.2 - Z.2.2) = Z1.2.2 - Z0.2.2 := by have := hz.2; omega
  rw [e1, e2]
  have e3 : (r.map (cv E)).toList ++ st.map (cv E) = (rst r st).map (cv E) := by cases r <;> rfl
  rw [e3]
  refine k p e Rm s m args below meth c F h1 h2 (Nat.le_trans h3 hz.1) (Nat.le_trans h4 hz.2) als H1 locs1 hl (fun v hv => ?_) (fun v hv => (v2 v hv).mono hz.1) hW1 hS1
  cases r with
  | none => exact (hst v v1 hv).mono hz.1
  | some w =>
    rcases List.mem_cons.mp hv with e | hv
    · rw [e]
      exact hv1 w rfl
    · exact (hst v v1 hv).mono hz.1
theorem recv {s : State} {H : Heap} {t i : Nat} (hK : va_K E.1 classes (tys E) s) (hW : Wo E I L R Z H) (hvd : VD Z t i) (ht : t < 10) : ∃ cellB : Cell, H[ad E t i]? = some cellB ∧ cellB.vm.isStatics = false ∧ s.vm.findClass (Rn t) = some cellB.cls := by
  have hat := hW.at hvd
  rw [cell_o E I L R Z ht] at hat
  obtain ⟨r1, e1, cell, q1, q2, q3, q4⟩ := hat
  exact ⟨cell, q1, by rw [q3]; rfl, by rw [q2]; exact (hK.1 t _ (cl_at t ht)).2.1⟩
theorem roomM {M2 : Mt} {d mc ms : Nat} {Rm : Room} (h : M2.2.2.1 ≤ 21) (h1 : d + 1 ≤ Rm.frames) (h2 : 40 * (d + 1) ≤ Rm.locals) : (rmM d mc ms).frames + 1 ≤ Rm.frames ∧ 8 + (M2.2.2.1 + 11) + (rmM d mc ms).locals ≤ Rm.locals := ⟨h1, by show 8 + (M2.2.2.1 + 11) + 40 * d ≤ _; omega⟩
theorem aw_callV {idx t i : Nat} {as : List AV} (hd : Dc M pc (.invokevirtual idx) 3 pc2) (hlk : Cond.methodLink M.1.cls idx M2.1 ∈ G) (hf : MF M2 n) (hv : MV M2) (ht : t < 10 ∧ Rn t = M2.1.cls) (hn : as.length = n) (hw : (st.map wd).sum ≤ 8)
    (hm : AMet l E d M2 (vr t i :: as) I L R Z (fun r I1 L1 R1 Z1 => AWq l E (d + 1) M Z0 pc2 ls (rst r st) I1 L1 R1 Z1 Q)) : AWq l E (d + 1) M Z0 pc ls (as.reverse ++ vr t i :: st) I L R Z Q := by
  obtain ⟨hd, rfl⟩ := hd
  refine AWq.call hm (fun v h1 h2 => h1 v (List.mem_append_right _ (List.mem_cons_of_mem _ h2))) (fun p e Rm s m args below meth c F als H locs cells slots mc ms Qc hsz v1 hW hS hr hM => ?_)
  have hts := F.2.2.2.2.1
  have hvd : VD Z t i := vd_of (v1 _ (List.mem_append_right _ List.mem_cons_self)) (by omega)
  have cw : CallW Rm s args M.1.cls M2.1.cls idx M2.1 M2.2.1 M2.2.2.1 M2.2.2.2 (wsM M2) (rmM d mc ms) mc ms n :=
    ⟨callB_of n hts (goodM hf) rfl rfl rfl (hts _ hf.2.1) (hts _ hlk) hf.2.2.1 (roomM hf.2.2.2.1 F.2.2.2.2.2.2.2.2.2.1 F.2.2.2.2.2.2.2.2.2.2.1), hts _ hv.1, hts _ hv.2⟩
  refine va_runV (As := as.map (cv E)) (b := ad E t i) ⟨F.1, F.2.1, F.2.2.1, F.2.2.2.1, hts⟩ hM cw ⟨PcM.blind, by rw [← ht.2]; exact recv F.2.2.2.2.2.1.1 hW hvd ht.1, fun U hU hw => ⟨rfl, F.2.2.2.2.2.1.at F.2.2.2.2.2.2.2.2.2.2.2 hS hU hw, by rw [hU]; exact hW, ?_⟩⟩ rfl (by rw [List.length_map]; exact hn) hsz ?_ (lv_room (by rw [wd_sum]; exact hw)) hd hr
  · intro v hv
    rcases List.mem_cons.mp hv with e | hv
    · rw [e]; exact Or.inr hvd
    · exact v1 v (List.mem_append_left _ (List.mem_reverse.mpr hv))
  · show (as.reverse ++ vr t i :: st).map (cv E) = _
    rw [List.map_append, List.map_reverse, List.map_cons]
    rfl
theorem aw_callS {idx : Nat} {as : List AV} (hd : Dc M pc (.invokestatic idx) 3 pc2) (hlk : Cond.methodLink M.1.cls idx M2.1 ∈ G) (hf : MF M2 n) (hv : MS M2) (hn : as.length = n) (hw : (st.map wd).sum ≤ 8)
    (hm : AMet l E d M2 as I L R Z (fun r I1 L1 R1 Z1 => AWq l E (d + 1) M Z0 pc2 ls (rst r st) I1 L1 R1 Z1 Q)) : AWq l E (d + 1) M Z0 pc ls (as.reverse ++ st) I L R Z Q := by
  obtain ⟨hd, rfl⟩ := hd
  refine AWq.call hm (fun v h1 h2 => h1 v (List.mem_append_right _ h2)) (fun p e Rm s m args below meth c F als H locs cells slots mc ms Qc hsz v1 hW hS hr hM => ?_)
  have hts := F.2.2.2.2.1
  refine va_runS (As := as.map (cv E)) ⟨F.1, F.2.1, F.2.2.1, F.2.2.2.1, hts⟩ hM ⟨callB_of n hts (goodM hf) rfl rfl rfl (hts _ hf.2.1) (hts _ hlk) hf.2.2.1 (roomM hf.2.2.2.1 F.2.2.2.2.2.2.2.2.2.1 F.2.2.2.2.2.2.2.2.2.2.1), hts _ hv⟩ ⟨PcM.blind, fun U hU hw => ⟨rfl, F.2.2.2.2.2.1.at F.2.2.2.2.2.2.2.2.2.2.2 hS hU hw, by rw [hU]; exact hW, ?_⟩⟩ rfl (by rw [List.length_map]; exact hn) hsz ?_ (lv_room (by rw [wd_sum]; exact hw)) hd hr
  · intro v hv
    exact v1 v (List.mem_append_left _ (List.mem_reverse.mpr hv))
  · show (as.reverse ++ st).map (cv E) = _
    rw [List.map_append, List.map_reverse]
theorem aw_callSN {idx : Nat} {as : List AV} {host : String} (hd : Dc M pc (.invokestatic idx) 3 pc2) (hlk : Cond.methodLinkNest M.1.cls idx M2.1 host ∈ Gn) (hf : MF M2 n) (hv : MS M2) (hn : as.length = n) (hw : (st.map wd).sum ≤ 8)
    (hm : AMet l E d M2 as I L R Z (fun r I1 L1 R1 Z1 => AWq l E (d + 1) M Z0 pc2 ls (rst r st) I1 L1 R1 Z1 Q)) : AWq l E (d + 1) M Z0 pc ls (as.reverse ++ st) I L R Z Q := by
  obtain ⟨hd, rfl⟩ := hd
  refine AWq.call hm (fun v h1 h2 => h1 v (List.mem_append_right _ h2)) (fun p e Rm s m args below meth c F als H locs cells slots mc ms Qc hsz v1 hW hS hr hM => ?_)
  have hts := F.2.2.2.2.1
  refine va_runSN (As := as.map (cv E)) ⟨F.1, F.2.1, F.2.2.1, F.2.2.2.1, hts⟩ hM ⟨va_cnB n hts (goodM hf) rfl rfl rfl (F.2.2.2.2.2.1.2.1 _ hlk) (hts _ hf.2.1) hf.2.2.1 (roomM hf.2.2.2.1 F.2.2.2.2.2.2.2.2.2.1 F.2.2.2.2.2.2.2.2.2.2.1), hts _ hv, trivial⟩ ⟨PcM.blind, fun U hU hw => ⟨rfl, F.2.2.2.2.2.1.at F.2.2.2.2.2.2.2.2.2.2.2 hS hU hw, by rw [hU]; exact hW, ?_⟩⟩ rfl (by rw [List.length_map]; exact hn) hsz ?_ (lv_room (by rw [wd_sum]; exact hw)) hd hr
  · intro v hv
    exact v1 v (List.mem_append_left _ (List.mem_reverse.mpr hv))
  · show (as.reverse ++ st).map (cv E) = _
    rw [List.map_append, List.map_reverse]
theorem aw_callI {idx t i : Nat} {as : List AV} (hd : Dc M pc (.invokespecial idx) 3 pc2) (hlk : Cond.methodLink M.1.cls idx M2.1 ∈ G) (hf : MF M2 n) (hv : MI M2) (hn : as.length = n) (hw : (st.map wd).sum ≤ 8)
    (hm : AMet l E d M2 (vr t i :: as) I L R Z (fun r I1 L1 R1 Z1 => AWq l E (d + 1) M Z0 pc2 ls (rst r st) I1 L1 R1 Z1 Q)) : AWq l E (d + 1) M Z0 pc ls (as.reverse ++ vr t i :: st) I L R Z Q := by
  obtain ⟨hd, rfl⟩ := hd
  refine AWq.call hm (fun v h1 h2 => h1 v (List.mem_append_right _ (List.mem_cons_of_mem _ h2))) (fun p e Rm s m args below meth c F als H locs cells slots mc ms Qc hsz v1 hW hS hr hM => ?_)
  have hts := F.2.2.2.2.1
  have hfc := hf.1
  rw [hv.2.2] at hfc
  have cb : CallB Rm s args M.1.cls idx M2.1 M2.2.1 M2.2.2.1 none (wsM M2) (rmM d mc ms) mc ms n := by
    have := callB_of (bytes := M2.2.1) (maxL := M2.2.2.1) (ret := M2.2.2.2) (ws' := G) (own := M.1.cls) (index := idx) (y := M2.1) (ws := wsM M2) (rm := rmM d mc ms) (mc := mc) (ms := ms) n hts (goodM hf) rfl rfl rfl (hts _ hf.2.1) (hts _ hlk) hf.2.2.1 (roomM hf.2.2.2.1 F.2.2.2.2.2.2.2.2.2.1 F.2.2.2.2.2.2.2.2.2.2.1)
    rw [hv.2.2] at this
    exact this
  refine va_runI (As := as.map (cv E)) (b := ad E t i) ⟨F.1, F.2.1, F.2.2.1, F.2.2.2.1, hts⟩ hM ⟨cb, hv.2.1, hts _ hv.1⟩ ⟨PcM.blind, fun U hU hw => ⟨rfl, F.2.2.2.2.2.1.at F.2.2.2.2.2.2.2.2.2.2.2 hS hU hw, by rw [hU]; exact hW, ?_⟩⟩ rfl (by rw [List.length_map]; exact hn) hsz ?_ (lv_room (by rw [wd_sum]; exact hw)) hd hr
  · intro v hv
    rcases List.mem_cons.mp hv with e | hv
    · rw [e]; exact v1 _ (List.mem_append_right _ List.mem_cons_self)
    · exact v1 v (List.mem_append_left _ (List.mem_reverse.mpr hv))
  · show (as.reverse ++ vr t i :: st).map (cv E) = _
    rw [List.map_append, List.map_reverse, List.map_cons]
    rfl
theorem aw_callIN {idx t i : Nat} {as : List AV} {host : String} (hd : Dc M pc (.invokespecial idx) 3 pc2) (hlk : Cond.methodLinkNest M.1.cls idx M2.1 host ∈ Gn) (hf : MF M2 n) (hv : MI M2) (hn : as.length = n) (hw : (st.map wd).sum ≤ 8)
    (hm : AMet l E d M2 (vr t i :: as) I L R Z (fun r I1 L1 R1 Z1 => AWq l E (d + 1) M Z0 pc2 ls (rst r st) I1 L1 R1 Z1 Q)) : AWq l E (d + 1) M Z0 pc ls (as.reverse ++ vr t i :: st) I L R Z Q := by
  obtain ⟨hd, rfl⟩ := hd
  refine AWq.call hm (fun v h1 h2 => h1 v (List.mem_append_right _ (List.mem_cons_of_mem _ h2))) (fun p e Rm s m args below meth c F als H locs cells slots mc ms Qc hsz v1 hW hS hr hM => ?_)
  have hts := F.2.2.2.2.1
  have cb : va_CN Rm s args M.1.cls idx M2.1 host M2.2.1 M2.2.2.1 none (wsM M2) (rmM d mc ms) mc ms n := by
    have := va_cnB (bytes := M2.2.1) (maxL := M2.2.2.1) (ret := M2.2.2.2) (ws' := G) (own := M.1.cls) (index := idx) (y := M2.1) (ws := wsM M2) (rm := rmM d mc ms) (mc := mc) (ms := ms) n hts (goodM hf) rfl rfl rfl (F.2.2.2.2.2.1.2.1 _ hlk) (hts _ hf.2.1) hf.2.2.1 (roomM hf.2.2.2.1 F.2.2.2.2.2.2.2.2.2.1 F.2.2.2.2.2.2.2.2.2.2.1)
    rw [hv.2.2] at this
    exact this
  refine va_runIN (As := as.map (cv E)) (b := ad E t i) ⟨F.1, F.2.1, F.2.2.1, F.2.2.2.1, hts⟩ hM ⟨cb, hv.2.1, hts _ hv.1⟩ ⟨PcM.blind, fun U hU hw => ⟨rfl, F.2.2.2.2.2.1.at F.2.2.2.2.2.2.2.2.2.2.2 hS hU hw, by rw [hU]; exact hW, ?_⟩⟩ rfl (by rw [List.length_map]; exact hn) hsz ?_ (lv_room (by rw [wd_sum]; exact hw)) hd hr
  · intro v hv
    rcases List.mem_cons.mp hv with e | hv
    · rw [e]; exact v1 _ (List.mem_append_right _ List.mem_cons_self)
    · exact v1 v (List.mem_append_left _ (List.mem_reverse.mpr hv))
  · show (as.reverse ++ vr t i :: st).map (cv E) = _
    rw [List.map_append, List.map_reverse, List.map_cons]
    rfl
end CALLS
