/-! ===== the state as a value; what the component's memory holds of it ===== -/
abbrev ShV : Type := Int32 × Nat × (Nat → Int32)
abbrev SlV : Type := Nat × Int32 × (Nat → Nat) × ShV
/-- machine, image, image kept, tape, sheets, slots, waiting -/
abbrev AS : Type := Mc × Mc × Nat × (Nat × (Nat → Int32)) × (Nat → ShV) × (Nat → SlV) × (Nat × (Nat → Int32))
abbrev sM (S : AS) : Mc := S.1
abbrev sG (S : AS) : Mc := S.2.1
abbrev sK (S : AS) : Nat := S.2.2.1
abbrev sT (S : AS) : Nat × (Nat → Int32) := S.2.2.2.1
abbrev sH (S : AS) : Nat → ShV := S.2.2.2.2.1
abbrev sL2 (S : AS) : Nat → SlV := S.2.2.2.2.2.1
abbrev sW (S : AS) : Nat × (Nat → Int32) := S.2.2.2.2.2.2
def setM (S : AS) (V : Mc) : AS := (V, S.2)
/-- a machine as the calls leave it -/
def WS (V : Mc) : Prop := WF V ∧ nS V ≤ 9999 ∧ ∀ p, p < nP V → pP V p 2 ≤ 9 ∧ pP V p 3 ≤ 9
def SHo (I : It) (i : Nat) (v : ShV) : Prop := I 4 i 0 = v.1 ∧ I 4 i 1 = nI v.2.1 ∧ v.2.1 ≤ 24 ∧ (v.1 = -1 ∨ v.1 = nI 0 ∨ v.1 = nI 1 ∨ v.1 = nI 2) ∧ (v.1 = -1 → v.2.1 = 0) ∧ ∀ j, j < v.2.1 → I 26 i j = v.2.2 j
def SLo (I : It) (i : Nat) (v : SlV) : Prop := I 5 i 0 = nI v.1 ∧ v.1 < 4 ∧ (v.1 = 3 → I 5 i 1 = v.2.1) ∧ (v.1 = 1 → (∀ f, f < 5 → I 3 (36 + i) f = nI (v.2.2.1 f)) ∧ v.2.2.1 0 < 6 ∧ v.2.2.1 1 < 2 ∧ (1 ≤ v.2.2.1 2 ∧ v.2.2.1 2 ≤ 9) ∧ (1 ≤ v.2.2.1 3 ∧ v.2.2.1 3 ≤ 9) ∧ v.2.2.1 4 < 1000003) ∧ (v.1 = 2 → SHo I (4 + i) v.2.2.2 ∧ v.2.2.2.1 ≠ -1)
/-- all but the machine -/
def CO (I : It) (R : Rt) (Z : Zt) (S : AS) : Prop :=
  (sK S = 1 → CM I R Z 1 (sG S) ∧ WS (sG S)) ∧ (I 8 0 12 = nI (sK S) ∧ sK S ≤ 1) ∧ (I 6 0 0 = nI (sT S).1 ∧ (sT S).1 ≤ 96 ∧ ∀ j, j < (sT S).1 → I 20 0 j = (sT S).2 j) ∧ (∀ i, i < 4 → SHo I i (sH S i)) ∧ (∀ i, i < 5 → SLo I i (sL2 S i)) ∧ (I 8 0 11 = nI (sW S).1 ∧ (sW S).1 ≤ 60 ∧ ∀ j, j < (sW S).1 → I 23 0 j = (sW S).2 j) ∧ (∃ ρ, RG R 0 ρ) ∧ (∃ ρ, RG R 1 ρ)
def CS (I : It) (R : Rt) (Z : Zt) (S : AS) : Prop := Sta R ∧ CM I R Z 0 (sM S) ∧ WS (sM S) ∧ CO I R Z S
/-- cells that hold nothing of the state -/
def scr (t i : Nat) : Prop := t = 0 ∨ t = 1 ∨ t = 14 ∨ t = 15 ∨ t = 18 ∨ t = 19 ∨ t = 21 ∨ t = 22 ∨ own 2 t i ∨ t = 9 ∨ 28 ≤ t
theorem SHo.keep {I I2 : It} {i : Nat} {v : ShV} (h : SHo I i v) (h4 : I2 4 i = I 4 i) (h26 : I2 26 i = I 26 i) : SHo I2 i v := by
  unfold SHo at *
  rw [h4, h26]
  exact h
theorem SLo.keep {I I2 : It} {i : Nat} {v : SlV} (h : SLo I i v) (h5 : I2 5 i = I 5 i) (h3 : I2 3 (36 + i) = I 3 (36 + i)) (h4 : I2 4 (4 + i) = I 4 (4 + i)) (h26 : I2 26 (4 + i) = I 26 (4 + i)) : SLo I2 i v := by
  unfold SLo at *
  rw [h5, h3]
  exact ⟨h.1, h.2.1, h.2.2.1, h.2.2.2.1, fun z => ⟨(h.2.2.2.2 z).1.keep h4 h26, (h.2.2.2.2 z).2⟩⟩
/-- the state but the machine stays when only the machine's own cells, or cells of no state, change -/
theorem CO.keep {I I2 : It} {R R2 : Rt} {Z : Zt} {S : AS} (h : CO I R Z S) (hI : ∀ t i, ¬ (scr t i ∨ own 0 t i) → I2 t i = I t i) (hR : ∀ t i, ¬ (t = 16 ∨ (t = 13 ∧ i ≠ 1) ∨ t = 9 ∨ 28 ≤ t) → R2 t i = R t i) (hG0 : ∃ ρ, RG R2 0 ρ) (hG1 : ∃ ρ, RG R2 1 ρ) : CO I2 R2 Z S := by
  obtain ⟨h1, h2, h3, h4, h5, h6, h7, h8⟩ := h
  have e8 : I2 8 0 = I 8 0 := hI 8 0 (by unfold scr own; omega)
  have e6 : I2 6 0 = I 6 0 := hI 6 0 (by unfold scr own; omega)
  have e20 : I2 20 0 = I 20 0 := hI 20 0 (by unfold scr own; omega)
  have e23 : I2 23 0 = I 23 0 := hI 23 0 (by unfold scr own; omega)
  refine ⟨fun z => ⟨(h1 z).1.keep (h1 z).2.1 (fun t i hti => hI t i (by unfold scr; unfold own at *; omega)) (fun t i hti => hR t i (by unfold own at hti; omega)), (h1 z).2⟩, by rw [e8]; exact h2, by rw [e6, e20]; exact h3, fun i hi => (h4 i hi).keep (hI 4 i (by unfold scr own; omega)) (hI 26 i (by unfold scr own; omega)), fun i hi => (h5 i hi).keep (hI 5 i (by unfold scr own; omega)) (hI 3 (36 + i) (by unfold scr own; omega)) (hI 4 _ (by unfold scr own; omega)) (hI 26 _ (by unfold scr own; omega)), by rw [e8, e23]; exact h6, hG0, hG1⟩
/-- the model's cells stay -/
def KM (I : It) (L : Lt) (R : Rt) (I2 : It) (L2 : Lt) (R2 : Rt) : Prop := ∀ t i, t = 9 ∨ (28 ≤ t ∧ t < 50) → I2 t i = I t i ∧ L2 t i = L t i ∧ R2 t i = R t i
theorem CS.keep {I I2 : It} {R R2 : Rt} {Z : Zt} {S : AS} (h : CS I R Z S) (hI : ∀ t i, ¬ scr t i → I2 t i = I t i) (hR : ∀ t i, ¬ (t = 16 ∨ (t = 13 ∧ i = 2) ∨ t = 9 ∨ 28 ≤ t) → R2 t i = R t i) (hS : Sta R2) (hG0 : ∃ ρ, RG R2 0 ρ) (hG1 : ∃ ρ, RG R2 1 ρ) : CS I2 R2 Z S :=
  ⟨hS, h.2.1.keep h.2.2.1.1 (fun t i hti => hI t i (by unfold scr; unfold own at *; omega)) (fun t i hti => hR t i (by unfold own at hti; omega)), h.2.2.1, h.2.2.2.keep (fun t i hti => hI t i (fun z => hti (Or.inl z))) (fun t i hti => hR t i (by omega)) hG0 hG1⟩
