/-! ===== a row of 24 rows of 25 longs, made by one instruction: the heap behind it in closed form ===== -/
/-- the row of rows whose first i places are settled: the rows stand right behind it -/
def gdO (cA : ClassId) (b i : Nat) : Cell := arrV cA 24 (fun j => va_rf (if j < i then some (b + 1 + j) else none))
/-- a row of longs, new -/
def gdR (cm : ClassId) : Cell := arrV cm 25 (fun _ => .long 0)
def gdH (cA cm : ClassId) (H : Heap) (i : Nat) : Heap := H.push (gdO cA H.size i) ++ Array.replicate i (gdR cm)
def gdS (cA cm : ClassId) (T : State) (i : Nat) : State := { T with heap := gdH cA cm T.heap i, slotsUsed := T.slotsUsed + 24 + 25 * i }
theorem gdH_size (cA cm : ClassId) (H : Heap) (i : Nat) : (gdH cA cm H i).size = H.size + 1 + i := by
  simp [gdH]
theorem gdH_at (cA cm : ClassId) (H : Heap) (i q : Nat) : (gdH cA cm H i)[q]? = if q < H.size then H[q]? else if q = H.size then some (gdO cA H.size i) else if q < H.size + 1 + i then some (gdR cm) else none := by
  unfold gdH
  rw [Array.getElem?_append, Array.getElem?_push, Array.getElem?_replicate, Array.size_push]
  by_cases h1 : q < H.size
  · rw [if_pos (by omega), if_neg (by omega), if_pos h1]
  · by_cases h2 : q = H.size
    · rw [if_pos (by omega), if_pos h2, if_neg h1, if_pos h2]
    · rw [if_neg (by omega), if_neg h1, if_neg h2]
      by_cases h3 : q < H.size + 1 + i
      · rw [if_pos h3, if_pos (by omega)]
      · rw [if_neg h3, if_neg (by omega)]
theorem gdH_old {cA cm : ClassId} {H : Heap} {i q : Nat} (h : q < H.size) : (gdH cA cm H i)[q]? = H[q]? := by
  rw [gdH_at, if_pos h]
theorem gdH_mid (cA cm : ClassId) (H : Heap) (i : Nat) : (gdH cA cm H i)[H.size]? = some (gdO cA H.size i) := by
  rw [gdH_at, if_neg (Nat.lt_irrefl _), if_pos rfl]
theorem gdH_row {cA cm : ClassId} {H : Heap} {i j : Nat} (h : j < i) : (gdH cA cm H i)[H.size + 1 + j]? = some (gdR cm) := by
  rw [gdH_at, if_neg (by omega), if_neg (by omega), if_pos (by omega)]
theorem gdO_next (cA : ClassId) (b i : Nat) : (gdO cA b i).setSlot i (.ref (b + 1 + i)) = gdO cA b (i + 1) := by
  unfold gdO
  rw [arrV_store]
  refine congrArg (arrV cA 24) (funext fun j => ?_)
  unfold updV
  by_cases e : j = i
  · rw [if_pos e, if_pos (by omega), e]
    rfl
  · rw [if_neg e]
    show va_rf (if j < i then _ else _) = _
    by_cases h : j < i
    · rw [if_pos h, if_pos (by omega)]
    · rw [if_neg h, if_neg (by omega)]
theorem gdH_next (cA cm : ClassId) (H : Heap) (i : Nat) : ((gdH cA cm H i).push (gdR cm)).setIfInBounds H.size (gdO cA H.size (i + 1)) = gdH cA cm H (i + 1) := by
  refine Array.ext_getElem? fun q => ?_
  rw [Array.getElem?_setIfInBounds, Array.getElem?_push, Array.size_push, gdH_size, gdH_at, gdH_at]
  by_cases h1 : H.size = q
  · rw [if_pos h1, if_pos (by omega), if_neg (by omega), if_pos h1.symm]
  · rw [if_neg h1]
    by_cases h2 : q < H.size
    · rw [if_neg (by omega), if_pos h2, if_pos h2]
    · rw [if_neg h2, if_neg (Ne.symm h1), if_neg h2, if_neg (Ne.symm h1)]
      by_cases h3 : q = H.size + 1 + i
      · rw [if_pos h3, if_pos (by omega)]
      · rw [if_neg h3]
        by_cases h4 : q < H.size + 1 + i
        · rw [if_pos h4, if_pos (by omega)]
        · rw [if_neg h4, if_neg (by omega)]
theorem gdS_zero (cA cm : ClassId) (T : State) : T.pushCell (gdO cA T.heap.size 0) = gdS cA cm T 0 := by
  have e1 : (gdO cA T.heap.size 0).slots.size = 24 := arrV_size _ _ _
  have e2 : gdH cA cm T.heap 0 = T.heap.push (gdO cA T.heap.size 0) := by simp [gdH]
  unfold State.pushCell gdS
  rw [e1, e2]
theorem gdS_next (cA cm : ClassId) (T : State) (i : Nat) : ((gdS cA cm T i).pushCell (gdR cm)).setCell T.heap.size (gdO cA T.heap.size (i + 1)) = gdS cA cm T (i + 1) := by
  have e1 : (gdR cm).slots.size = 25 := arrV_size _ _ _
  have e2 : T.slotsUsed + 24 + 25 * i + 25 = T.slotsUsed + 24 + 25 * (i + 1) := by omega
  unfold State.setCell State.pushCell gdS
  show ({ T with heap := ((gdH cA cm T.heap i).push (gdR cm)).setIfInBounds T.heap.size (gdO cA T.heap.size (i + 1)), slotsUsed := T.slotsUsed + 24 + 25 * i + (gdR cm).slots.size } : State) = _
  rw [gdH_next, e1, e2]
section GRID
variable {p : Program} {l : Launch} {e : Env} {R : Room} {s : State} {m : MethodId} {args : Array Value} {below : List Frame} {meth : Method} {c : Code} {T : State} {locs : List Loc} {cells slots : Nat}
/-- the method stands behind the first i rows as it stood before -/
theorem gd_stand (X : Stand p l e R s m args below meth c T locs cells slots) (cA cm : ClassId) (i : Nat) : Stand p l e R s m args below meth c (gdS cA cm T i) locs (cells + 1 + i) (slots + 24 + 25 * i) := by
  induction i with
  | zero =>
    have h := X.pushed (gdO cA T.heap.size 0)
    rw [gdS_zero cA cm, show (gdO cA T.heap.size 0).slots.size = 24 from arrV_size _ _ _] at h
    exact h
  | succ i ih =>
    have h := ih.pushed (gdR cm)
    have hc : ((gdS cA cm T i).pushCell (gdR cm)).heap[T.heap.size]? = some (gdO cA T.heap.size i) := by
      show ((gdH cA cm T.heap i).push (gdR cm))[T.heap.size]? = _
      rw [Array.getElem?_push, gdH_size, if_neg (by omega), gdH_mid]
    have h2 := h.stored hc i (.ref (T.heap.size + 1 + i))
    rw [gdO_next, gdS_next, show (gdR cm).slots.size = 25 from arrV_size _ _ _] at h2
    have h3 := h2.dropFresh (fun x hx => by
      rw [List.mem_singleton.mp hx]
      exact X.heapGrown)
    exact h3
end GRID
section GRIDW
variable {P : CtlPost} {e : Env} {d : Bool} {acts : List Action} {T : State}
/-- one row of 25 longs -/
theorem gd_row {cm cc : ClassId} {kC : Class} (h1 : T.vm.classes[cm]? = some kC) (h2 : kC.kind = .array cc .long) (hl : e.platform.arrayLengthLimit = 2147483645) (hb : e.platform.maxHeapBytes = 536870912) (h3 : T.heap.size < e.platform.maxCells) (h4 : T.slotsUsed + 25 ≤ e.platform.maxSlots) {Q : Addr → Pre} (k : ∀ acts', Q T.heap.size d acts' (T.pushCell (gdR cm))) : wp (multianewarray.make cm [nI 25]) Q P e d acts T := by
  have n25 : (nI 25).toNatClampNeg = 25 := nI_clamp (by decide)
  have p25 : ¬ nI 25 < 0 := nI_pos (by decide)
  unfold multianewarray.make
  simp only [wp_bind', W.ite, p25, if_false, wp_pure', W.theClass, h1, h2, Option.some.injEq, exists_eq_left', n25]
  refine W.newArray_of h1 h2 (by rw [hl]; decide) (by rw [hb]; decide) h3 h4 rfl fun acts' => ?_
  have := k acts'
  rw [show gdR cm = ({ cls := cm, slots := Array.replicate 25 (.long 0), vm := .none } : Cell) from (arrV_new cm 25 (.long 0)).symm] at this
  exact this
/-- the row of rows and its rows -/
theorem gd_make {cA cm cc : ClassId} {kA kC : Class} (a1 : T.vm.classes[cA]? = some kA) (a2 : kA.kind = .array cm (.array .long)) (h1 : T.vm.classes[cm]? = some kC) (h2 : kC.kind = .array cc .long) (hl : e.platform.arrayLengthLimit = 2147483645) (hb : e.platform.maxHeapBytes = 536870912) (h3 : T.heap.size + 25 ≤ e.platform.maxCells) (h4 : T.slotsUsed + 624 ≤ e.platform.maxSlots) {Q : Addr → Pre} (k : ∀ d' acts', Q T.heap.size d' acts' (gdS cA cm T 24)) : wp (multianewarray.make cA [nI 24, nI 25]) Q P e d acts T := by
  have n24 : (nI 24).toNatClampNeg = 24 := nI_clamp (by decide)
  have p24 : ¬ nI 24 < 0 := nI_pos (by decide)
  have z24 : (nI 24 == 0) = false := by decide
  unfold multianewarray.make
  simp only [wp_bind', W.ite, p24, if_false, wp_pure', W.theClass, a1, a2, Option.some.injEq, exists_eq_left', n24, z24]
  refine W.newArray_of a1 a2 (by rw [hl]; decide) (by rw [hb]; decide) (by omega) (by omega) rfl fun acts' => ?_
  have e0 : T.pushCell ({ cls := cA, slots := Array.replicate 24 .null } : Cell) = gdS cA cm T 0 := by
    rw [← gdS_zero cA cm]
    refine congrArg T.pushCell ?_
    rw [show ({ cls := cA, slots := Array.replicate 24 .null } : Cell) = arrV cA 24 (fun _ => .null) from arrV_new cA 24 .null]
    rfl
  rw [e0, if_neg (by decide), Std.Legacy.Range.forIn_eq_forIn_range', wp_bind']
  show wp (forIn (List.range' 0 24 1) PUnit.unit _) _ P e d acts' _
  refine wp_forIn_inv (fun todo U => todo.length ≤ 24 ∧ todo = List.range' (24 - todo.length) todo.length ∧ U = gdS cA cm T (24 - todo.length)) _ _ ⟨by decide, by decide, rfl⟩ ?_ ?_
  · intro x todo U d2 acts2 Q2 ⟨g1, g2, g3⟩ next
    have g1 : todo.length + 1 ≤ 24 := g1
    have g2 : x :: todo = List.range' (24 - (todo.length + 1)) (todo.length + 1) := g2
    have g3 : U = gdS cA cm T (24 - (todo.length + 1)) := g3
    rw [List.range'_succ] at g2
    obtain ⟨g4, g5⟩ := List.cons.inj g2
    rw [show 24 - (todo.length + 1) + 1 = 24 - todo.length by omega] at g5
    rw [← g4] at g3
    have gx : x < 24 := by omega
    have gy : 24 - todo.length = x + 1 := by omega
    subst g3
    rw [wp_bind']
    refine gd_row (T := gdS cA cm T x) h1 h2 hl hb ?_ ?_ fun acts3 => ?_
    · show (gdH cA cm T.heap x).size < _
      rw [gdH_size]
      omega
    · show T.slotsUsed + 24 + 25 * x + 25 ≤ _
      omega
    simp only [wp_bind', W.writeLoc, wp_pure']
    refine ⟨gdO cA T.heap.size x, ?_, (fun q => by cases q), (by rw [show (gdO cA T.heap.size x).slots.size = 24 from arrV_size _ _ _]; exact gx), ?_, next _ _ _ ⟨by omega, g5, ?_⟩⟩
    · show ((gdH cA cm T.heap x).push (gdR cm))[T.heap.size]? = _
      rw [Array.getElem?_push, gdH_size, if_neg (by omega), gdH_mid]
    · have a3 : (gdS cA cm T x).vm.classes[cA]? = some kA := a1
      show State.fitsSlot _ cA .none x _ = true
      simp [State.fitsSlot, State.slotType?, a3, a2, fits]
    · rw [gy, ← gdS_next, ← gdO_next]
      show (State.setCell _ _ (Cell.setSlot _ x (.ref (gdH cA cm T.heap x).size))) = _
      rw [gdH_size]
  · intro U d2 acts2 ⟨_, _, g3⟩
    have g3 : U = gdS cA cm T 24 := g3
    subst g3
    rw [wp_pure']
    exact k d2 acts2
end GRIDW
section GRIDS
variable {p : Program} {l : Launch} {e : Env} {R : Room} {s : State} {m : MethodId} {args : Array Value} {below : List Frame} {meth : Method} {c : Code} {T : State} {locs : List Loc} {cells slots : Nat}
theorem gdS_top (cA cm : ClassId) (T : State) (g : JFrame) (i : Nat) : gdS cA cm (T.setTop g) i = (gdS cA cm T i).setTop g := rfl
/-- the instruction's step -/
theorem gd_step (X : Stand p l e R s m args below meth c T locs cells slots) (hexec : p.tables.exec = Jvm.exec) {own : String} {index : Nat} (hown : s.vm.findClass own = some m.cls) (hlink : (Cond.classLink own index "[[J").before args s = true) (hover : va_AOA .long s) (harr : (Cond.arrayClass .long).before args s = true)
    {g : JFrame} (hg : g.method = m) (hd : decode c.code g.pc = .ok (.multianewarray index 2, 4)) {rest : List Value} (hst : g.stack = .int (nI 25) :: .int (nI 24) :: rest) (hc : cells + 25 ≤ R.cells) (hs : slots + 624 ≤ R.slots) :
    ∃ (vm₁ : Vm) (cA cm : ClassId), s.vm.findClass "[[J" = some cA ∧ s.vm.findClass "[J" = some cm ∧ Stand p l e R s m args below meth c (gdS cA cm (T.setVm vm₁) 24) locs (cells + 25) (slots + 624) ∧
      ∀ t, Steps p.tables e below ((gdS cA cm (T.setVm vm₁) 24).setTop { g with pc := g.pc + 4, stack := .ref T.heap.size :: rest }) t → Steps p.tables e below (T.setTop g) t := by
  subst hg
  obtain ⟨cm, cA, kA, o1, -, o2, o3, o4⟩ := arrayOverA_spec (va_AOA.use (A := args) hover)
  obtain ⟨cm2, kC, cc, q1, q2, q3⟩ := Cond.arrayClass_spec harr
  obtain rfl : cm2 = cm := Option.some.inj (q1.symm.trans o1)
  obtain ⟨c2, w1, w2⟩ := Cond.classLink_spec hown hlink e.platform (by rw [X.admits.platform])
  obtain rfl : c2 = cA := Option.some.inj (w1.symm.trans o4)
  obtain ⟨v1, v2, v3⟩ := State.classEntry (e := e) X.warmed w2
  generalize T.vm.noted g.method.cls index (.cls c2) = vm₁ at v1 v2 v3
  have XS := gd_stand (X.noted v2) c2 cm2 24
  obtain ⟨kA1, y1, y2⟩ := v2.alike.2.2 _ _ o2
  obtain ⟨kC1, y3, y4⟩ := v2.alike.2.2 _ _ q2
  obtain ⟨r1, r2⟩ := X.roomAbove hc hs
  refine ⟨vm₁, c2, cm2, o4, o1, XS, fun t ht => ?_⟩
  jvm_step X.here [hexec, hd]
  unfold multianewarray.sem
  rw [wp_bind', W.resolveClassAt_links (State.method?_setTop g X.here.top) v1, wp_bind', W.popN, if_neg (by decide)]
  refine ⟨g, State.topJava?_setTop' (s := T.setVm vm₁) g X.here.top, [.int (nI 24), .int (nI 25)], rest, rfl, hst, ?_⟩
  simp only [List.mapM_cons, List.mapM_nil, wp_bind', wp_pure']
  have ez : ((T.setTop g).setVm vm₁).setTop { g with stack := rest } = (T.setVm vm₁).setTop { g with stack := rest } := State.setTop_setTop (s := T.setVm vm₁) ..
  rw [ez]
  refine gd_make (T := (T.setVm vm₁).setTop { g with stack := rest }) (kA := kA1) (kC := kC1) (cm := cm2) (cc := cc) y1 (by rw [y2]; exact o3) y3 (by rw [y4]; exact q3) (Launch.admits_arrayLengthLimit X.admits) (Launch.admits_maxHeapBytes X.admits) r1 r2 fun d2 acts2 => ?_
  rw [gdS_top]
  simp only [wp_bind', W.mark, W.pushRef, State.topJava?_setTop' _ XS.here.top, Option.some.injEq, exists_eq_left', State.setTop_setTop]
  intro acts3
  simp [jvm, XS.here.top]
  exact ht
end GRIDS
