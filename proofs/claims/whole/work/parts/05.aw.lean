/-! ===== locals by place ===== -/
def lvP : List (Option AV) → Nat → List (Nat × AV)
  | [], _ => []
  | none :: t, k => lvP t (k + 1)
  | some v :: t, k => (k, v) :: lvP t (k + 1)
theorem lvP_mem {v : AV} : ∀ (ls : List (Option AV)) (k j : Nat), (j, v) ∈ lvP ls k ↔ ∃ i, j = k + i ∧ ls[i]? = some (some v)
  | [], k, j => by simp [lvP]
  | none :: t, k, j => by
    unfold lvP
    rw [lvP_mem t (k + 1) j]
    constructor
    · rintro ⟨i, h1, h2⟩
      exact ⟨i + 1, by omega, h2⟩
    · rintro ⟨i, h1, h2⟩
      cases i with
      | zero => simp at h2
      | succ i => exact ⟨i, by omega, h2⟩
  | some w :: t, k, j => by
    unfold lvP
    rw [List.mem_cons, lvP_mem t (k + 1) j]
    constructor
    · rintro (h | ⟨i, h1, h2⟩)
      · cases h
        exact ⟨0, rfl, rfl⟩
      · exact ⟨i + 1, by omega, h2⟩
    · rintro ⟨i, h1, h2⟩
      cases i with
      | zero =>
        left
        have h3 : w = v := by simpa using h2
        rw [h1, h3]
        rfl
      | succ i => exact Or.inr ⟨i, by omega, h2⟩
def lvH (E : En) (als : Array Slot) (nL : Nat) (ls : List (Option AV)) : Prop := lv_has als nL ((lvP ls 0).map fun q => (q.1, cv E q.2)) ∧ ls.length = nL
theorem lvH.get {E : En} {als : Array Slot} {nL : Nat} {ls : List (Option AV)} (h : lvH E als nL ls) {k : Nat} {v : AV} (hk : ls[k]? = some (some v)) : als[k]? = some (.val (cv E v)) := by
  have h1 : (k, v) ∈ lvP ls 0 := (lvP_mem ls 0 k).mpr ⟨k, by omega, hk⟩
  exact h.1.2.2 (k, cv E v) (List.mem_map.mpr ⟨(k, v), h1, rfl⟩)
def isLg : Option AV → Bool
  | some (.inr (.inl _)) => true
  | _ => false
theorem cv_cat (E : En) (v : AV) : (cv E v).category = 2 ↔ isLg (some v) = true := by
  match v with
  | .inl _ => simp [cv, isLg, Value.category]
  | .inr (.inl _) => simp [cv, isLg, Value.category]
  | .inr (.inr none) => simp [cv, isLg, Value.category]
  | .inr (.inr (some _)) => simp [cv, isLg, Value.category]
/-- a value of one word comes to a place -/
theorem lvH.st1 {E : En} {als : Array Slot} {nL : Nat} {ls : List (Option AV)} (h : lvH E als nL ls) {k : Nat} {v : AV} (hp : ∀ j, j + 1 = k → isLg (ls.getD j none) = false) {als2 : Array Slot}
    (h2 : lv_has als2 nL ((k, cv E v) :: ((lvP ls 0).map fun q => (q.1, cv E q.2)).filter (fun q => !(q.1 == k) && !(q.1 + 1 == k && q.2.category == 2)))) : lvH E als2 nL (ls.set k (some v)) := by
  refine ⟨⟨h2.1, h2.2.1, fun q hq => ?_⟩, by rw [List.length_set]; exact h.2⟩
  obtain ⟨⟨j, w⟩, h3, rfl⟩ := List.mem_map.mp hq
  obtain ⟨i, h4, h5⟩ := (lvP_mem _ 0 j).mp h3
  have h4 : j = i := by omega
  subst h4
  by_cases e : j = k
  · subst e
    have hl : j < ls.length := by
      have := (List.getElem?_eq_some_iff.mp h5).1
      rwa [List.length_set] at this
    rw [List.getElem?_set_self hl] at h5
    cases h5
    exact h2.2.2 _ List.mem_cons_self
  · rw [List.getElem?_set_ne (Ne.symm e)] at h5
    refine h2.2.2 _ (List.mem_cons_of_mem _ (List.mem_filter.mpr ⟨List.mem_map.mpr ⟨(j, w), (lvP_mem _ 0 j).mpr ⟨j, by omega, h5⟩, rfl⟩, ?_⟩))
    have e1 : (j == k) = false := by simpa using e
    have e2 : (j + 1 == k && (cv E w).category == 2) = false := by
      by_cases e3 : j + 1 = k
      · have e4 := hp j e3
        rw [List.getD_eq_getElem?_getD, h5, Option.getD_some] at e4
        have e5 : ¬ (cv E w).category = 2 := fun q => by rw [(cv_cat E w).mp q] at e4; cases e4
        simp [e5]
      · simp [e3]
    show (!(j == k) && !(j + 1 == k && (cv E w).category == 2)) = true
    rw [e1, e2]
    rfl
theorem lvH.st2 {E : En} {als : Array Slot} {nL : Nat} {ls : List (Option AV)} (h : lvH E als nL ls) {k : Nat} {v : AV} (hp : ∀ j, j + 1 = k → isLg (ls.getD j none) = false) {als2 : Array Slot}
    (h2 : lv_has als2 nL ((k, cv E v) :: ((lvP ls 0).map fun q => (q.1, cv E q.2)).filter (fun q => !(q.1 == k) && (!(q.1 == k + 1) && !(q.1 + 1 == k && q.2.category == 2))))) : lvH E als2 nL ((ls.set k (some v)).set (k + 1) none) := by
  refine ⟨⟨h2.1, h2.2.1, fun q hq => ?_⟩, by rw [List.length_set, List.length_set]; exact h.2⟩
  obtain ⟨⟨j, w⟩, h3, rfl⟩ := List.mem_map.mp hq
  obtain ⟨i, h4, h5⟩ := (lvP_mem _ 0 j).mp h3
  have h4 : j = i := by omega
  subst h4
  have hl0 := (List.getElem?_eq_some_iff.mp h5).1
  rw [List.length_set, List.length_set] at hl0
  by_cases e6 : j = k + 1
  · subst e6
    rw [List.getElem?_set_self (by rw [List.length_set]; exact hl0)] at h5
    cases h5
  rw [List.getElem?_set_ne (Ne.symm e6)] at h5
  by_cases e : j = k
  · subst e
    rw [List.getElem?_set_self hl0] at h5
    cases h5
    exact h2.2.2 _ List.mem_cons_self
  · rw [List.getElem?_set_ne (Ne.symm e)] at h5
    refine h2.2.2 _ (List.mem_cons_of_mem _ (List.mem_filter.mpr ⟨List.mem_map.mpr ⟨(j, w), (lvP_mem _ 0 j).mpr ⟨j, by omega, h5⟩, rfl⟩, ?_⟩))
    have e1 : (j == k) = false := by simpa using e
    have e7 : (j == k + 1) = false := by simpa using e6
    have e2 : (j + 1 == k && (cv E w).category == 2) = false := by
      by_cases e3 : j + 1 = k
      · have e4 := hp j e3
        rw [List.getD_eq_getElem?_getD, h5, Option.getD_some] at e4
        have e5 : ¬ (cv E w).category = 2 := fun q => by rw [(cv_cat E w).mp q] at e4; cases e4
        simp [e5]
      · simp [e3]
    show (!(j == k) && (!(j == k + 1) && !(j + 1 == k && (cv E w).category == 2))) = true
    rw [e1, e2, e7]
    rfl
/-! ===== the judgements ===== -/
def Fx (E : En) (d : Nat) (M : Mt) (p : Program) (Rm : Room) (s : State) (m : MethodId) (args : Array Value) (meth : Method) (c : Code) : Prop :=
  p.tables.exec = Jvm.exec ∧ c.code = M.2.1 ∧ c.maxLocals = M.2.2.1 ∧ s.vm.findClass M.1.cls = some m.cls ∧ (∀ w ∈ G, w.before args s = true) ∧ StF E s s.heap ∧ meth.sig.returnType = M.2.2.2 ∧ meth.locks = false ∧ meth.name = M.1.name ∧ d ≤ Rm.frames ∧ 40 * d ≤ Rm.locals ∧ E.2.2.1 ≤ s.heap.size
/-- the end of a method: its answer, and the world behind it -/
def QcM (E : En) (r : Option AV) (I : It) (L : Lt) (R : Rt) (Z : Zt) : Array Value → State → Outcome → State → Prop := fun _ st oc t =>
  oc = .returned (r.map (cv E)) ∧ Wo E I L R Z t.heap ∧ (∀ v, r = some v → vv Z v) ∧ va_F (Af E) st t
def PcM (E : En) (as : List AV) (I : It) (L : Lt) (R : Rt) (Z : Zt) : Array Value → State → Prop := va_Pc (as.map (cv E)) (fun U => StF E U U.heap ∧ Wo E I L R Z U.heap ∧ ∀ v ∈ as, vv Z v)
def wsM (M : Mt) : List Cond := Cond.code M.1 M.2.1 M.2.2.1 M.2.2.2 :: G
def rmM (d mc ms : Nat) : Room := { frames := d, cells := mc, slots := ms, locals := 40 * d }
abbrev Qt : Type := Option AV → It → Lt → Rt → Zt → Prop
def AW (l : Launch) (E : En) (d : Nat) (M : Mt) (Z0 : Zt) (pc : Nat) (ls : List (Option AV)) (st : List AV) (I : It) (L : Lt) (R : Rt) (Z : Zt) (r : Option AV) (I2 : It) (L2 : Lt) (R2 : Rt) (Z2 : Zt) : Prop :=
  (Z.2.1 ≤ Z2.2.1 ∧ Z.2.2 ≤ Z2.2.2) ∧ ∀ (p : Program) (e : Env) (Rm : Room) (s : State) (m : MethodId) (args : Array Value) (below : List Frame) (meth : Method) (c : Code), Fx E d M p Rm s m args meth c → Z2.2.1 - Z0.2.1 ≤ Rm.cells → Z2.2.2 - Z0.2.2 ≤ Rm.slots → Z0.2.1 ≤ Z.2.1 → Z0.2.2 ≤ Z.2.2 →
    ∀ (als : Array Slot) (H : Heap) (locs : List Loc), lvH E als M.2.2.1 ls → (∀ v ∈ st, vv Z v) → (∀ v, some v ∈ ls → vv Z v) → Wo E I L R Z H → va_S (Af E) s.heap H locs →
      W p l e Rm s m args below meth c H locs (Z.2.1 - Z0.2.1) (Z.2.2 - Z0.2.2) (MQ below (QcM E r I2 L2 R2 Z2) args s (Z2.2.1 - Z0.2.1) (Z2.2.2 - Z0.2.2) (Af E)) (F0 m pc als (st.map (cv E)))
/-- from here the method comes to its end, with Q of its answer and of the world -/
def AWq (l : Launch) (E : En) (d : Nat) (M : Mt) (Z0 : Zt) (pc : Nat) (ls : List (Option AV)) (st : List AV) (I : It) (L : Lt) (R : Rt) (Z : Zt) (Q : Qt) : Prop :=
  ∃ r I2 L2 R2 Z2, Q r I2 L2 R2 Z2 ∧ AW l E d M Z0 pc ls st I L R Z r I2 L2 R2 Z2
/-- a method's contract at one start -/
def AMet (l : Launch) (E : En) (d : Nat) (M : Mt) (as : List AV) (I : It) (L : Lt) (R : Rt) (Z : Zt) (Q : Qt) : Prop :=
  ∃ r I2 L2 R2 Z2, Q r I2 L2 R2 Z2 ∧ (Z.2.1 ≤ Z2.2.1 ∧ Z.2.2 ≤ Z2.2.2) ∧ Met l M.1 (wsM M) (rmM d (Z2.2.1 - Z.2.1) (Z2.2.2 - Z.2.2)) (PcM E as I L R Z) (QcM E r I2 L2 R2 Z2) (Z2.2.1 - Z.2.1) (Z2.2.2 - Z.2.2) (Af E)
section LIFT
variable {l : Launch} {E : En} {d : Nat} {M : Mt} {Z0 : Zt} {pc pc2 : Nat} {ls ls2 : List (Option AV)} {st st2 : List AV} {I : It} {L : Lt} {R : Rt} {Z : Zt} {Q : Qt}
/-- an instruction that leaves the world as it is -/
theorem AWq.lift (k : AWq l E d M Z0 pc2 ls2 st2 I L R Z Q) (hv : (∀ v ∈ st, vv Z v) → (∀ v, some v ∈ ls → vv Z v) → (∀ v ∈ st2, vv Z v) ∧ (∀ v, some v ∈ ls2 → vv Z v))
    (hw : ∀ (p : Program) (e : Env) (Rm : Room) (s : State) (m : MethodId) (args : Array Value) (below : List Frame) (meth : Method) (c : Code) (cells slots : Nat) (Qs : State → Prop), Fx E d M p Rm s m args meth c → ∀ (als : Array Slot) (H : Heap) (locs : List Loc), lvH E als M.2.2.1 ls → (∀ v ∈ st, vv Z v) → Wo E I L R Z H → va_S (Af E) s.heap H locs →
      (∀ als2 : Array Slot, lvH E als2 M.2.2.1 ls2 → W p l e Rm s m args below meth c H locs cells slots Qs (F0 m pc2 als2 (st2.map (cv E)))) → W p l e Rm s m args below meth c H locs cells slots Qs (F0 m pc als (st.map (cv E)))) :
    AWq l E d M Z0 pc ls st I L R Z Q := by
  obtain ⟨r, I2, L2, R2, Z2, hq, hz, k⟩ := k
  refine ⟨r, I2, L2, R2, Z2, hq, hz, fun p e Rm s m args below meth c F h1 h2 h3 h4 als H locs hl v1 v2 hW hS => ?_⟩
  obtain ⟨w1, w2⟩ := hv v1 v2
  exact hw p e Rm s m args below meth c _ _ _ F als H locs hl v1 hW hS (fun als2 hl2 => k p e Rm s m args below meth c F h1 h2 h3 h4 als2 H locs hl2 w1 w2 hW hS)
end LIFT
