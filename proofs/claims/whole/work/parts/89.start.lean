/-! ===== the claim out of the walk ===== -/
def R_law : String := "PowerBondsLaw"
def lw_P (b : Addr) (xs : List Int32) (args : Array Value) (s : State) : Prop := args = #[.ref b] ∧ s.IntsAt b xs ∧ xs.length ≤ 3072 ∧ (Jvm.Cond.and given_1 narrow_1).before args s = true
def lw_Q (_ : Array Value) (s : State) (o : Outcome) (t : State) : Prop := o = .returned (some (.int 1)) ∧ Framed s o t [] 600000 7302250
def lw_Z (below : List Frame) (a : Array Value) (s : State) : State → Prop := fun t => ∃ o, t.status = .running ∧ Ended t below o ∧ lw_Q a s o t
/-- the law's own end, with 1 on the stack, nothing written that was there before, its room as the claim has it -/
theorem lw_ret {p : Program} {l : Launch} {e : Env} {s : State} {m : MethodId} {below : List Frame} {meth : Method} {c : Code} {b : Nat} (hx : p.tables.exec = Jvm.exec) (hb : c.code = code) (hr : meth.sig.returnType = ret) (hlocks : meth.locks = false) {pc : Nat} {H : Heap} {ls : Array Slot} (hdg : decode code pc = .ok (.ireturn, 1)) : W p l e room_1 s m #[Value.ref b] below meth c H [] 600000 7302250 (lw_Z below #[Value.ref b] s) (F0 m pc ls [.int 1]) := by
  intro T hT X
  obtain ⟨fs, hret, hrun, hended, hW, hframe⟩ := X.leave (v := some (.int 1)) (hlocks := hlocks) (fun h => by rw [hr] at h; cases h)
  have hmeth' : T.vm.method? m = some meth := X.method'
  refine ⟨T.setFrames fs, ?_, .returned (some (.int 1)), hrun, hended, rfl, ⟨_, rfl⟩, hW, hframe⟩
  jvm_step X.here [X.here.top, hx, hb, hdg, hmeth', hr, ret, narrow_b1]
  (try refine ⟨rfl, ?_⟩); (try refine ⟨rfl, ?_⟩)
  first | (intro acts; rw [hret _ acts rfl rfl rfl]) | rw [hret _ _ rfl rfl rfl]
  exact Steps.refl _
/-- what holds at the law's entry: the machine, the code, the tables' words (any of lw_tbl by 'hts w (by decide +kernel)'), the script of L ints xs at the cell b, what the Statement gives of the start (any of its parts by flat_of_before) -/
def lw_At (p : Program) (s : State) (m : MethodId) (meth : Method) (c : Code) (b L : Nat) (xs : Nat → Int32) : Prop :=
  p.tables.exec = Jvm.exec ∧ c.code = code ∧ meth.sig.returnType = ret ∧ c.maxLocals = 4 ∧ s.vm.findClass R_law = some m.cls ∧ (∀ w ∈ lw_tbl, w.before #[Value.ref b] s = true) ∧ va_X b L xs s s.heap ∧ b < s.heap.size ∧ meth.locks = false ∧ meth.name = x.name ∧ (Jvm.Cond.and given_1 narrow_1).before #[Value.ref b] s = true
/-! ===== the start ===== -/
theorem G_in {w : Cond} (h : w ∈ G) : w ∈ lw_tbl := (List.mem_filter.mp h).1
theorem inst_G : ∀ t, t < 10 → Cond.instantiable (Rn t) (nf t) ∈ G := by10 in_An in_Lu in_Ma in_Pa in_Sh in_Sl in_Ta in_Tx in_Pb in_Mo
theorem arr_p {s : State} {A : Array Value} {ty : FieldType} (h : (Cond.arrayClass ty).before A s = true) : ∃ cA : ClassId, ArrOfT s cA ty ∧ s.vm.findClass ("[" ++ ty.toString) = some cA := by
  obtain ⟨c, k, comp, h1, h2, h3⟩ := Cond.arrayClass_spec h
  exact ⟨c, fun n z => ⟨(fun k h => by cases h), k, h2, comp, h3⟩, h1⟩
theorem arr_o {s : State} {C : String} (h : va_AO C s) : ∃ cA : ClassId, ArrOfT s cA (.object C) ∧ va_RA s cA (.object C) := by
  obtain ⟨comp, c, k, h1, h2, h3, h4, h5⟩ := Cond.arrayOver_spec (va_AO.use (A := #[]) h)
  exact ⟨c, fun n z => ⟨(fun k h => by cases h), k, h3, comp, h4⟩, k, comp, h3, h4, h1, h5⟩
theorem arr_a {s : State} {t : FieldType} (h : va_AOA t s) : ∃ cA : ClassId, ArrOfT s cA (.array t) ∧ s.vm.findClass ("[" ++ (FieldType.array t).toString) = some cA := by
  obtain ⟨comp, c, k, h1, h2, h3, h4, h5⟩ := arrayOverA_spec (va_AOA.use (A := #[]) h)
  exact ⟨c, fun n z => ⟨(fun k h => by cases h), k, h3, comp, h4⟩, h5⟩
def str2 (i : Nat) : Term := if i = 0 then .string "PowerBonds$Tape" 70 else .string "PowerBonds$Tape" 76
set_option maxHeartbeats 4000000 in
set_option maxRecDepth 100000 in
theorem start_E {s : State} {b L : Nat} {xs : Nat → Int32} (hts : ∀ w ∈ lw_tbl, w.before #[Value.ref b] s = true) (hX : va_X b L xs s s.heap) (hbl : b < s.heap.size) (hgv : (Jvm.Cond.and given_1 narrow_1).before #[Value.ref b] s = true) : ∃ E : En, StF E s s.heap ∧ E.2.2.1 = s.heap.size ∧ E.2.2.2.2.1 = L ∧ E.2.2.2.1 53 0 = b := by
  have hs := flat_of_before _ hgv
  have hG : ∀ w ∈ G, w.before #[Value.ref b] s = true := fun w hw => hts w (G_in hw)
  have hA : ∀ a : Nat, a < s.heap.size → ¬ (fun q : Nat => s.heap.size ≤ q) a := fun a h => Nat.not_le.mpr h
  have o0 : va_AO "PowerBonds$Part" s := va_AO.of (hts (.arrayOver (.object "PowerBonds$Part")) (by decide +kernel))
  have o1 : va_AO "PowerBonds$Text" s := va_AO.of (hts (.arrayOver (.object "PowerBonds$Text")) (by decide +kernel))
  have o2 : va_AO "PowerBonds$Sheet" s := va_AO.of (hts (.arrayOver (.object "PowerBonds$Sheet")) (by decide +kernel))
  have o3 : va_AO "PowerBonds$Slot" s := va_AO.of (hts (.arrayOver (.object "PowerBonds$Slot")) (by decide +kernel))
  have o4 : va_AOA .long s := va_AOA.of (hts (.arrayOver (.array .long)) (by decide +kernel))
  have o5 : va_Nw (.castable "[I" "java/lang/Cloneable") s := va_Nw.of rfl (hts (.castable "[I" "java/lang/Cloneable") (by decide +kernel))
  obtain ⟨f, hf⟩ : ∃ f : Nat → ClassId × (Nat → Nat), ∀ k, k < 10 → u_Kn s (Rn k) (Tt k) (nf k) (f k).1 (f k).2 := by
    refine Classical.axiomOfChoice (r := fun k (q : ClassId × (Nat → Nat)) => k < 10 → u_Kn s (Rn k) (Tt k) (nf k) q.1 q.2) (fun k => ?_)
    by_cases hk : k < 10
    · obtain ⟨cC, iS, h⟩ := u_known (C := Rn k) (T := Tt k) (N := nf k) (n := nf k) hG (cl_in k hk) (hG _ (inst_G k hk))
      exact ⟨(cC, iS), fun _ => h⟩
    · exact ⟨(0, fun _ => 0), fun h => absurd h hk⟩
  obtain ⟨g, hg⟩ : ∃ g : Nat → ClassId, ∀ k, k < 8 → ArrOfT s (g k) (tcT k) ∧ va_RA s (g k) (tcT k) := by
    refine Classical.axiomOfChoice (r := fun k (q : ClassId) => k < 8 → ArrOfT s q (tcT k) ∧ va_RA s q (tcT k)) (fun k => ?_)
    by_cases hk : k < 8
    · have h8 : k = 0 ∨ k = 1 ∨ k = 2 ∨ k = 3 ∨ k = 4 ∨ k = 5 ∨ k = 6 ∨ k = 7 := by omega
      rcases h8 with rfl | rfl | rfl | rfl | rfl | rfl | rfl | rfl
      · obtain ⟨c, h1, h2⟩ := arr_p (hG _ ac_int); exact ⟨c, fun _ => ⟨h1, h2⟩⟩
      · obtain ⟨c, h1, h2⟩ := arr_p (hG _ ac_long); exact ⟨c, fun _ => ⟨h1, h2⟩⟩
      · obtain ⟨c, h1, h2⟩ := arr_p (hG _ ac_byte); exact ⟨c, fun _ => ⟨h1, h2⟩⟩
      · obtain ⟨c, h1, h2⟩ := arr_o o0; exact ⟨c, fun _ => ⟨h1, h2⟩⟩
      · obtain ⟨c, h1, h2⟩ := arr_o o1; exact ⟨c, fun _ => ⟨h1, h2⟩⟩
      · obtain ⟨c, h1, h2⟩ := arr_o o2; exact ⟨c, fun _ => ⟨h1, h2⟩⟩
      · obtain ⟨c, h1, h2⟩ := arr_o o3; exact ⟨c, fun _ => ⟨h1, h2⟩⟩
      · obtain ⟨c, h1, h2⟩ := arr_a o4; exact ⟨c, fun _ => ⟨h1, h2⟩⟩
    · exact ⟨0, fun h => absurd h hk⟩
  obtain ⟨tA, hA1, hA2⟩ := va_Tof (args := #[Value.ref b]) (s := s) (tm := .static "PowerBonds" "ABOVE" "[I") (ty := .int) (N := 6) (f := abv) (A := fun q : Nat => s.heap.size ≤ q) (by decide) (hs _ (by decide +kernel)) (va_eqt (z := 6) (hs _ (by decide +kernel))) (fun j hj => by
    have h6 : j = 0 ∨ j = 1 ∨ j = 2 ∨ j = 3 ∨ j = 4 ∨ j = 5 := by omega
    rcases h6 with rfl | rfl | rfl | rfl | rfl | rfl
    · exact va_eqt (z := -1) (hs _ (by decide +kernel))
    · exact va_eqt (z := 0) (hs _ (by decide +kernel))
    · exact va_eqt (z := 0) (hs _ (by decide +kernel))
    · exact va_eqt (z := 2) (hs _ (by decide +kernel))
    · exact va_eqt (z := 0) (hs _ (by decide +kernel))
    · exact va_eqt (z := 4) (hs _ (by decide +kernel))) hA
  have hZ1 : va_Z "PowerBonds" "ABOVE" "[I" (.ref tA) (fun q : Nat => s.heap.size ≤ q) s s.heap := va_Zref (hts (.laysStatic "PowerBonds" "ABOVE" "[I") (by decide +kernel)) (hG _ ii_Pb) hA1 hA
  have hZ2 : va_Z "java/lang/String" "COMPACT_STRINGS" "Z" (.int 1) (fun q : Nat => s.heap.size ≤ q) s s.heap := va_Zof (hts (.laysStatic "java/lang/String" "COMPACT_STRINGS" "Z") (by decide +kernel)) (hG _ ii_Js) (va_eqt (z := 1) (hs _ (by decide +kernel))) hA
  have hZ3 := va_Zqof (A := fun q : Nat => s.heap.size ≤ q) (hts (.laysStatic "jdk/internal/util/Preconditions" "SIOOBE_FORMATTER" "Ljava/util/function/BiFunction;") (by decide +kernel)) (hG _ ii_Jp) (hs (.isRef (.static "jdk/internal/util/Preconditions" "SIOOBE_FORMATTER" "Ljava/util/function/BiFunction;")) (by decide +kernel)) hA
  obtain ⟨tf, fl, hZ4⟩ : ∃ tf fl : Nat, va_Z "jdk/internal/util/Preconditions" "SIOOBE_FORMATTER" "Ljava/util/function/BiFunction;" (if fl = 0 then .null else .ref tf) (fun q : Nat => s.heap.size ≤ q) s s.heap := by
    rcases hZ3 with h | ⟨t, h⟩
    · exact ⟨0, 0, h⟩
    · exact ⟨t, 1, h⟩
  have i2 : ∀ {Q : Nat → Prop}, Q 0 → Q 1 → ∀ i : Nat, i < 2 → Q i := fun h0 h1 i hi => by
    rcases (show i = 0 ∨ i = 1 by omega) with rfl | rfl
    · exact h0
    · exact h1
  have i4 : ∀ {Q : Nat → Prop}, Q 0 → Q 1 → Q 2 → Q 3 → ∀ i : Nat, i < 4 → Q i := fun h0 h1 h2 h3 i hi => by
    rcases (show i = 0 ∨ i = 1 ∨ i = 2 ∨ i = 3 by omega) with rfl | rfl | rfl | rfl
    · exact h0
    · exact h1
    · exact h2
    · exact h3
  obtain ⟨adK, adV, hSt, hEv⟩ := vk_Sof (args := #[Value.ref b]) (s := s) (N := 2) (tm := str2) (len := [4, 4]) (byt := sby) (A := fun q : Nat => s.heap.size ≤ q)
    (i2 (Q := fun i => ([4, 4] : List Nat).getD i 0 < 2 ^ 31) (by decide) (by decide))
    (i2 (Q := fun i => (Cond.exactly (str2 i) "java/lang/String").before #[Value.ref b] s = true) (hs _ (by decide +kernel)) (hs _ (by decide +kernel)))
    (i2 (Q := fun i => (Cond.eq (.field (str2 i) "java/lang/String" "coder" "B") (.int 0)).before #[Value.ref b] s = true) (hs _ (by decide +kernel)) (hs _ (by decide +kernel)))
    (i2 (Q := fun i => (Cond.arrayOf (.field (str2 i) "java/lang/String" "value" "[B") .byte).before #[Value.ref b] s = true) (hs _ (by decide +kernel)) (hs _ (by decide +kernel)))
    (i2 (Q := fun i => (Cond.eq (.length (.field (str2 i) "java/lang/String" "value" "[B")) (.int (Int32.ofNat (([4, 4] : List Nat).getD i 0)))).before #[Value.ref b] s = true) (hs _ (by decide +kernel)) (hs _ (by decide +kernel)))
    (i2 (Q := fun i => ∀ j : Nat, j < ([4, 4] : List Nat).getD i 0 → (Cond.eq (.elem (.field (str2 i) "java/lang/String" "value" "[B") (.int (Int32.ofNat j))) (.int ((sby.getD i []).getD j 0))).before #[Value.ref b] s = true)
      (i4 (Q := fun j => (Cond.eq (.elem (.field (str2 0) "java/lang/String" "value" "[B") (.int (Int32.ofNat j))) (.int ((sby.getD 0 []).getD j 0))).before #[Value.ref b] s = true) (hs _ (by decide +kernel)) (hs _ (by decide +kernel)) (hs _ (by decide +kernel)) (hs _ (by decide +kernel)))
      (i4 (Q := fun j => (Cond.eq (.elem (.field (str2 1) "java/lang/String" "value" "[B") (.int (Int32.ofNat j))) (.int ((sby.getD 1 []).getD j 0))).before #[Value.ref b] s = true) (hs _ (by decide +kernel)) (hs _ (by decide +kernel)) (hs _ (by decide +kernel)) (hs _ (by decide +kernel))))
    (fun i j hi hj hij => by
      rcases (show i = 0 ∧ j = 1 ∨ i = 1 ∧ j = 0 by omega) with ⟨rfl, rfl⟩ | ⟨rfl, rfl⟩
      · exact Or.inl (hs (.not (.eq (str2 0) (str2 1))) (by decide +kernel))
      · exact Or.inr (hs (.not (.eq (str2 0) (str2 1))) (by decide +kernel))) hA
  refine ⟨((fun k => (f k).1, fun k => (f k).2), g, s.heap.size, (fun t i => if t = 50 then tA else if t = 51 then adK i else if t = 52 then adV i else if t = 53 then b else if t = 54 then tf else fl), L, xs), ⟨⟨fun c q hq => ?_, fun k q hq => ?_⟩, fun w hw => ?_, ⟨o0, o1, o2, o3, o4, o5⟩, ⟨vk_R.of (hts (.stringRef "PowerBonds$Tape" 70 "give") (by decide +kernel)) (hEv 0 (by decide)), vk_R.of (hts (.stringRef "PowerBonds$Tape" 76 "read") (by decide +kernel)) (hEv 1 (by decide))⟩, ⟨hZ1, hA2⟩, hSt, ⟨hZ2, hZ4⟩, ⟨hX, hbl⟩⟩, rfl, rfl, rfl⟩
  · have hc : c < 10 := (List.getElem?_eq_some_iff.mp hq).1
    rw [cl_at c hc] at hq
    cases hq
    exact hf c hc
  · have hk : k < 8 := by
      have := (List.getElem?_eq_some_iff.mp hq).1
      rw [show (tys _).length = 8 from rfl] at this
      exact this
    rw [tys_at _ hk] at hq
    cases hq
    exact hg k hk
  · have h1 := List.mem_filter.mp hw
    cases w with
    | methodLinkNest => exact va_Nw.of rfl (hts _ h1.1)
    | fieldLinkNest => exact va_Nw.of rfl (hts _ h1.1)
    | _ => exact absurd h1.2 (show ¬ false = true by decide)
theorem lw_end {p : Program} {l : Launch} {e : Env} {s : State} {m : MethodId} {below : List Frame} {meth : Method} {c : Code} {b k n : Nat} {E : En} {r : Option AV} {I2 : It} {L2 : Lt} {R2 : Rt} {Z2 : Zt} {als : Array Slot} (hE : E.2.2.1 = s.heap.size) (hr : r = some (vi (nI 1))) (hk : k ≤ 600000) (hn : n ≤ 7302250) (h : W p l e room_1 s m #[Value.ref b] below meth c s.heap [] 0 0 (MQ below (QcM E r I2 L2 R2 Z2) #[Value.ref b] s k n (Af E)) (F0 m 0 als [])) : W p l e room_1 s m #[Value.ref b] below meth c s.heap [] 0 0 (lw_Z below #[Value.ref b] s) (F0 m 0 als []) := by
  intro T hT X
  obtain ⟨t, st, o, h1, h2, h3, Lc, h4, h5⟩ := h T hT X
  refine ⟨t, st, o, h1, h2, ?_, h4.1, h4.2.1, ?_⟩
  · rw [h3.1, hr]; rfl
  · obtain ⟨a1, a2, a3, a4, a5, a6⟩ := h4.2.2
    refine ⟨a1, a2, by omega, a4, by omega, fun a ce hc => ?_⟩
    obtain ⟨ce', q1, q2, q3, q4⟩ := a6 a ce hc
    refine ⟨ce', q1, q2, q3, fun i _ => q4 i (fun z => ?_)⟩
    have hb1 : E.2.2.1 ≤ a := h5 _ z
    have hb2 := (Array.getElem?_eq_some_iff.mp hc).1
    omega
theorem whole_start {p : Program} {e : Env} {s : State} {m : MethodId} {below : List Frame} {meth : Method} {c : Code} (l : Launch) (hflags : l.flags = flags0) {b L : Nat} {xs : Nat → Int32} (hL : L ≤ 3072) (C0 : lw_At p s m meth c b L xs) : W p l e room_1 s m #[Value.ref b] below meth c s.heap [] 0 0 (lw_Z below #[Value.ref b] s) (entryFrame m ([Value.ref b] : List Value).toArray 4) := by
  obtain ⟨hx, hb, hr, hml, hown, hts, hX, hbl, hlocks, hnm, hgv⟩ := C0
  obtain ⟨E, hSt, hE1, hE2, hE3⟩ := start_E hts hX hbl hgv
  obtain ⟨r, I2, L2, R2, Z2, hq, hz, k⟩ := lw_all (l := l) (E := E) (d := 0) (zl := fun _ => 0) (by omega)
  have F : Fx E (0 + 1412) M_Lw_law p room_1 s m #[Value.ref b] meth c := ⟨hx, hb, hml, hown, fun w hw => hts w (G_in hw), hSt, hr, hlocks, hnm, by decide, by decide, by omega⟩
  have hl := lv_entry ([.ref b]) (n := 4) (Nat.le_of_ble_eq_true rfl)
  rw [lg_entry_eq]
  generalize (lg_sl ([.ref b]) ++ List.replicate (4 - (lg_sl ([.ref b])).length) Slot.unset).toArray = als at hl ⊢
  have hl2 : lvH E als M_Lw_law.2.2.1 [some (vr 53 0), none, none, none] := by
    refine ⟨?_, rfl⟩
    have e0 : cv E (vr 53 0) = .ref b := by
      show Value.ref (ad E 53 0) = _
      unfold ad
      rw [if_neg (by decide), hE3]
    show lv_has als 4 [(0, cv E (vr 53 0))]
    rw [e0]
    exact hl
  have hW : Wo E (iz 0) lz R00 (fun _ => 0, 0, 0) s.heap := ⟨by rw [hE1]; rfl, fun j hj => absurd hj (Nat.not_lt_zero j), fun t i f q _ hv => absurd hv.2.1 (Nat.not_lt_zero _)⟩
  have h := k p e room_1 s m #[Value.ref b] below meth c F (by have := hq.2.1; show Z2.2.1 - 0 ≤ 600000; omega) (by have := hq.2.2; show Z2.2.2 - 0 ≤ 7302250; omega) (Nat.le_refl _) (Nat.le_refl _) als s.heap [] hl2 (fun v hv => by cases hv) (fun v hv => by
    have h1 : v = vr 53 0 := by simpa using hv
    rw [h1]
    exact Or.inl (by decide)) hW va_S.rf
  exact lw_end hE1 hq.1 (by have := hq.2.1; show Z2.2.1 - 0 ≤ 600000; omega) (by have := hq.2.2; show Z2.2.2 - 0 ≤ 7302250; omega) h
