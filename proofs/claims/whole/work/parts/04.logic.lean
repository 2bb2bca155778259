/-! ===== what a launch fixes, carried from state to state ===== -/
def va_AOA (t : FieldType) (U : State) : Prop := (Cond.arrayOver (.array t)).before #[] U = true
theorem va_AOA.of {t : FieldType} {A : Array Value} {U : State} (h : (Cond.arrayOver (.array t)).before A U = true) : va_AOA t U := h
theorem va_AOA.use {t : FieldType} {A : Array Value} {U : State} (h : va_AOA t U) : (Cond.arrayOver (.array t)).before A U = true := h
def G : List Cond := lw_tbl.filter goodWord
theorem G_at {i : Nat} {w : Cond} (h : lw_tbl[i]? = some w) (hg : goodWord w = true) : w ∈ G := List.mem_filter.mpr ⟨List.mem_of_getElem? h, hg⟩
theorem G_good : ∀ w ∈ G, (w.onTables && w.keeps) = true ∨ ∃ ty, w = .arrayClass ty := fun _ h => good_of_word (List.mem_filter.mp h).2
def nestM (w : Cond) : Bool := match w with
  | .methodLinkNest _ _ _ _ => true
  | .fieldLinkNest _ _ _ _ _ _ => true
  | _ => false
def Gn : List Cond := lw_tbl.filter nestM
theorem Gn_at {i : Nat} {w : Cond} (h : lw_tbl[i]? = some w) (hg : nestM w = true) : w ∈ Gn := List.mem_filter.mpr ⟨List.mem_of_getElem? h, hg⟩
def Af (E : En) : Nat → Prop := fun q => E.2.2.1 ≤ q
def tys (E : En) : List (ClassId × FieldType) := (List.range 8).map fun k => (E.2.1 k, tcT k)
theorem tys_at (E : En) {k : Nat} (h : k < 8) : (tys E)[k]? = some (E.2.1 k, tcT k) := by
  unfold tys
  rw [List.getElem?_map, List.getElem?_range h]
  rfl
def abv (k : Nat) : Value := .int (([-1, 0, 0, 2, 0, 4] : List Int32).getD k 0)
def sby : List (List Int32) := [[103, 105, 118, 101], [114, 101, 97, 100]]
def StF (E : En) (U : State) (H : Heap) : Prop :=
  va_K E.1 classes (tys E) U ∧ (∀ w ∈ Gn, va_Nw w U) ∧
  (va_AO "PowerBonds$Part" U ∧ va_AO "PowerBonds$Text" U ∧ va_AO "PowerBonds$Sheet" U ∧ va_AO "PowerBonds$Slot" U ∧ va_AOA .long U ∧ va_Nw (.castable "[I" "java/lang/Cloneable") U) ∧
  (vk_R "PowerBonds$Tape" 70 "give" (E.2.2.2.1 51 0) U ∧ vk_R "PowerBonds$Tape" 76 "read" (E.2.2.2.1 51 1) U) ∧
  (va_Z "PowerBonds" "ABOVE" "[I" (.ref (E.2.2.2.1 50 0)) (Af E) U H ∧ va_T .int (E.2.2.2.1 50 0) 6 abv (Af E) U H) ∧
  vk_S 2 [4, 4] sby (E.2.2.2.1 51) (E.2.2.2.1 52) (Af E) U H ∧
  (va_Z "java/lang/String" "COMPACT_STRINGS" "Z" (.int 1) (Af E) U H ∧ va_Z "jdk/internal/util/Preconditions" "SIOOBE_FORMATTER" "Ljava/util/function/BiFunction;" (if E.2.2.2.1 55 0 = 0 then .null else .ref (E.2.2.2.1 54 0)) (Af E) U H) ∧
  (va_X (E.2.2.2.1 53 0) E.2.2.2.2.1 E.2.2.2.2.2 U H ∧ E.2.2.2.1 53 0 < E.2.2.1)
theorem va_AOA.moved {t : FieldType} {u U : State} (hvm : u.vm.Alike U.vm) (h : va_AOA t u) : va_AOA t U := by
  exact over_moved (a := #[]) (a' := #[]) hvm h
theorem StF.moved {E : En} {s U : State} {H : Heap} (hW : s.WarmedH U.vm) (h : StF E s H) : StF E U H := by
  obtain ⟨h1, h2, ⟨a1, a2, a3, a4, a5, a6⟩, ⟨r1, r2⟩, ⟨z1, z2⟩, s1, ⟨c1, c2⟩, x1, x2⟩ := h
  have hvm := hW.alike
  refine ⟨h1.moved hvm, fun w hw => ?_, ⟨a1.moved hvm, a2.moved hvm, a3.moved hvm, a4.moved hvm, a5.moved hvm, va_Nw.warmC hW a6⟩, ⟨r1.warm hW, r2.warm hW⟩, ⟨z1.moved hvm, z2.moved hvm⟩, s1.moved hvm, ⟨c1.moved hvm, c2.moved hvm⟩, x1.moved hvm, x2⟩
  have hm := (List.mem_filter.mp hw).2
  have hz := h2 w hw
  cases w <;> first | exact va_Nw.warmM hW hz | exact va_Nw.warmF hW hz | cases hm
theorem StF.kept {E : En} {U : State} {H H1 : Heap} (h : StF E U H) (hq : ∀ a : Nat, a < H.size → ¬ Af E a → H1[a]? = H[a]?) (hB : E.2.2.1 ≤ H.size) : StF E U H1 := by
  obtain ⟨h1, h2, h3, h4, ⟨z1, z2⟩, s1, ⟨c1, c2⟩, x1, x2⟩ := h
  exact ⟨h1, h2, h3, h4, ⟨z1.kept hq, z2.kept hq⟩, s1.kept hq, ⟨c1.kept hq, c2.kept hq⟩, x1.kept (hq _ (Nat.lt_of_lt_of_le x2 hB) (Nat.not_le.mpr x2)), x2⟩
theorem StF.same {E : En} {s U : State} {H : Heap} (hv : U.vm = s.vm) (h : StF E s H) : StF E U H := by
  obtain ⟨h1, h2, ⟨a1, a2, a3, a4, a5, a6⟩, ⟨r1, r2⟩, ⟨z1, z2⟩, s1, ⟨c1, c2⟩, x1, x2⟩ := h
  have hvm : s.vm.Alike U.vm := by rw [hv]; exact Vm.Alike.refl _
  refine ⟨h1.moved hvm, fun w hw => ?_, ⟨a1.moved hvm, a2.moved hvm, a3.moved hvm, a4.moved hvm, a5.moved hvm, va_Nw.same rfl hv.symm a6⟩, ⟨r1.same hv, r2.same hv⟩, ⟨z1.moved hvm, z2.moved hvm⟩, s1.moved hvm, ⟨c1.moved hvm, c2.moved hvm⟩, x1.moved hvm, x2⟩
  have hm := (List.mem_filter.mp hw).2
  have hz := h2 w hw
  cases w <;> first | exact va_Nw.same rfl hv.symm hz | cases hm
