/-! ===== abstract values: ints, longs, references as (tag, number) ===== -/
abbrev AV : Type := Int32 ⊕ (Int64 ⊕ Option (Nat × Nat))
abbrev vi (x : Int32) : AV := .inl x
abbrev vl (x : Int64) : AV := .inr (.inl x)
abbrev vn : AV := .inr (.inr none)
abbrev vr (t i : Nat) : AV := .inr (.inr (some (t, i)))
abbrev vo (r : Option (Nat × Nat)) : AV := .inr (.inr r)
/-- which object the k-th new cell is -/
def who (k : Nat) : Nat × Nat :=
  if k = 0 then (8, 0)
  else if k < 52 then
    (if (k - 1) % 17 = 0 then (2, (k - 1) / 17) else if (k - 1) % 17 = 1 then (10, (k - 1) / 17) else if (k - 1) % 17 = 2 then (11, (k - 1) / 17)
     else if (k - 1) % 17 = 3 then (12, (k - 1) / 17) else if (k - 1) % 17 = 4 then (13, (k - 1) / 17) else (3, 12 * ((k - 1) / 17) + ((k - 1) % 17 - 5)))
  else if k < 108 then
    (if (k - 52) % 28 = 0 then (0, (k - 52) / 28) else if (k - 52) % 28 = 1 then (14, (k - 52) / 28) else if (k - 52) % 28 = 2 then (15, (k - 52) / 28)
     else if (k - 52) % 28 = 3 then (16, (k - 52) / 28) else (17, 24 * ((k - 52) / 28) + ((k - 52) % 28 - 4)))
  else if k < 118 then
    (if k = 108 then (1, 0) else if k = 109 then (18, 0) else if k = 110 then (19, 0) else if k = 111 then (6, 0) else if k = 112 then (20, 0)
     else if k = 113 then (21, 0) else if k = 114 then (22, 0) else if k = 115 then (23, 0) else if k = 116 then (24, 0) else (25, 0))
  else if k < 126 then (if k % 2 = 0 then (4, (k - 118) / 2) else (26, (k - 118) / 2))
  else if k < 146 then
    (if (k - 126) % 4 = 0 then (5, (k - 126) / 4) else if (k - 126) % 4 = 1 then (3, 36 + (k - 126) / 4) else if (k - 126) % 4 = 2 then (4, 4 + (k - 126) / 4) else (26, 4 + (k - 126) / 4))
  else if k < 168 then
    (if k = 146 then (9, 0) else if k < 150 then (28, k - 147) else (k - 121, 0))
  else (if k % 2 = 0 then (7, (k - 168) / 2) else (27, (k - 168) / 2))
/-- the number of the new cell that an object is -/
def adr (t i : Nat) : Nat :=
  if t = 8 then 0
  else if t = 2 then 1 + 17 * i else if t = 10 then 2 + 17 * i else if t = 11 then 3 + 17 * i else if t = 12 then 4 + 17 * i else if t = 13 then 5 + 17 * i
  else if t = 3 then (if i < 36 then 6 + 17 * (i / 12) + i % 12 else 127 + 4 * (i - 36))
  else if t = 0 then 52 + 28 * i else if t = 14 then 53 + 28 * i else if t = 15 then 54 + 28 * i else if t = 16 then 55 + 28 * i
  else if t = 17 then 56 + 28 * (i / 24) + i % 24
  else if t = 1 then 108 else if t = 18 then 109 else if t = 19 then 110 else if t = 6 then 111 else if t = 20 then 112 else if t = 21 then 113 else if t = 22 then 114
  else if t = 23 then 115 else if t = 24 then 116 else if t = 25 then 117
  else if t = 4 then (if i < 4 then 118 + 2 * i else 128 + 4 * (i - 4))
  else if t = 26 then (if i < 4 then 119 + 2 * i else 129 + 4 * (i - 4))
  else if t = 5 then 126 + 4 * i
  else if t = 9 then 146 else if t = 28 then 147 + i
  else if t = 7 then 168 + 2 * i else if t = 27 then 169 + 2 * i
  else t + 121
/-- how many places an array has -/
def slen (t : Nat) : Nat := ([12, 12, 12, 14, 12, 12, 24, 25, 12, 12, 96, 96, 96, 60, 4, 5, 24, 0, 3110, 4, 4, 96, 5, 5, 5, 5, 120, 600, 24, 96, 128, 100, 24, 12, 24, 60, 60] : List Nat).getD (t - 10) 0
abbrev Zt : Type := (Nat → Nat) × Nat × Nat
def alen (Z : Zt) (t i : Nat) : Nat := if t = 27 then Z.1 i else slen t
/-- what an array holds: 0 int, 1 long, 2 byte, 3 Part, 4 Text, 5 Sheet, 6 Slot, 7 long[] -/
def tc (t : Nat) : Nat := ([3, 0, 0, 4, 0, 0, 7, 1, 0, 0, 2, 0, 0, 0, 5, 6, 0, 0, 0, 0, 0, 0, 0, 0, 0, 0, 0, 1, 1, 0, 0, 0, 1, 0, 0, 0, 0] : List Nat).getD (t - 10) 0
def tcT (k : Nat) : FieldType := ([.int, .long, .byte, .object "PowerBonds$Part", .object "PowerBonds$Text", .object "PowerBonds$Sheet", .object "PowerBonds$Slot", .array .long] : List FieldType).getD k .int
abbrev classes : List vw_C := [(RX0, TX0, 5), (RX1, TX1, 5), (RX2, TX2, 8), (RX3, TX3, 5), (RX4, TX4, 3), (RX5, TX5, 4), (RX6, TX6, 9), (RX7, TX7, 4), (RX8, TX8, 13), (RX9, TX9, 35)]
/-- fields of a class, and whether one is a reference -/
def nf (t : Nat) : Nat := ([5, 5, 8, 5, 3, 4, 9, 4, 13, 35] : List Nat).getD t 0
def fr (t k : Nat) : Bool := (([[1, 1, 1], [1, 1], [1, 1, 1, 1], [], [0, 0, 1], [0, 0, 1, 1], [0, 0, 1, 0, 0, 0, 1], [0, 0, 0, 1], [1, 1, 1, 1, 1, 1, 1, 1, 1, 1, 1], [1, 1, 1, 0, 1, 1, 1, 1, 1, 1, 1, 1, 1, 0, 1, 1, 0, 0, 0, 0, 0, 0, 0, 0, 0, 0, 0, 1, 1, 1, 1, 1, 1, 0, 1]] : List (List Nat)).getD t []).getD k 0 == 1
abbrev It : Type := Nat → Nat → Nat → Int32
abbrev Lt : Type := Nat → Nat → Nat → Int64
abbrev Rt : Type := Nat → Nat → Nat → Option (Nat × Nat)
/-- what a launch and a start fix: class numbers, slots, array classes, the first new cell, where old cells lie -/
abbrev En : Type := va_G × (Nat → ClassId) × Nat × (Nat → Nat → Nat) × Nat × (Nat → Int32)
def ad (E : En) (t i : Nat) : Nat := if t < 50 then E.2.2.1 + adr t i else E.2.2.2.1 t i
def cv (E : En) : AV → Value
  | .inl x => .int x
  | .inr (.inl x) => .long x
  | .inr (.inr none) => .null
  | .inr (.inr (some q)) => .ref (ad E q.1 q.2)
def cR (E : En) (r : Option (Nat × Nat)) : Option Nat := r.map (fun q => ad E q.1 q.2)
theorem cv_o (E : En) (r : Option (Nat × Nat)) : cv E (vo r) = va_rf (cR E r) := by cases r <;> rfl
/-- a reference that may be used -/
def VD (Z : Zt) (t i : Nat) : Prop := t < 50 ∧ adr t i < Z.2.1 ∧ who (adr t i) = (t, i)
def vv (Z : Zt) : AV → Prop
  | .inr (.inr (some q)) => 50 ≤ q.1 ∨ VD Z q.1 q.2
  | _ => True
def fV (E : En) (I : It) (R : Rt) (t i k : Nat) : Value := if fr t k then va_rf (cR E (R t i k)) else .int (I t i k)
def cellE (E : En) (I : It) (L : Lt) (R : Rt) (Z : Zt) (t i : Nat) : va_E :=
  if t < 10 then .inr (t, (List.range (nf t)).map (fV E I R t i))
  else if tc t = 1 then .inl (E.2.1 1, alen Z t i, .inr (.inl (L t i)))
  else if tc t < 3 then .inl (E.2.1 (tc t), alen Z t i, .inl (I t i))
  else .inl (E.2.1 (tc t), alen Z t i, .inr (.inr (.inr (.inr (fun j => cR E (R t i j))))))
/-- the world: the new cells hold what I, L, R say -/
def Wo (E : En) (I : It) (L : Lt) (R : Rt) (Z : Zt) (H : Heap) : Prop :=
  H.size = E.2.2.1 + Z.2.1 ∧ (∀ k, k < Z.2.1 → va_at E.1 classes (E.2.2.1 + k, cellE E I L R Z (who k).1 (who k).2) H) ∧ ∀ t i k q, R t i k = some q → VD Z t i → vv Z (vr q.1 q.2)
theorem adr_who_s : ∀ k, k < 168 → adr (who k).1 (who k).2 = k ∧ (who k).1 < 50 := by decide +kernel
theorem who_T (j : Nat) : who (168 + 2 * j) = (7, j) := by
  unfold who
  repeat (rw [if_neg (by omega)])
  rw [if_pos (by omega), show (168 + 2 * j - 168) / 2 = j by omega]
theorem who_C (j : Nat) : who (169 + 2 * j) = (27, j) := by
  unfold who
  rw [if_neg (by omega), if_neg (by omega), if_neg (by omega), if_neg (by omega), if_neg (by omega), if_neg (by omega), if_neg (by omega), if_neg (by omega), show (169 + 2 * j - 168) / 2 = j by omega]
theorem adr_who (k : Nat) : adr (who k).1 (who k).2 = k ∧ (who k).1 < 50 := by
  by_cases h : k < 168
  · exact adr_who_s k h
  · by_cases e : k % 2 = 0
    · obtain ⟨j, rfl⟩ : ∃ j, k = 168 + 2 * j := ⟨(k - 168) / 2, by omega⟩
      rw [who_T]
      exact ⟨rfl, Nat.lt_of_sub_eq_succ rfl⟩
    · obtain ⟨j, rfl⟩ : ∃ j, k = 169 + 2 * j := ⟨(k - 168) / 2, by omega⟩
      rw [who_C]
      exact ⟨rfl, Nat.lt_of_sub_eq_succ rfl⟩
theorem VD.mono {Z Z2 : Zt} (h : Z.2.1 ≤ Z2.2.1) {t i : Nat} (hv : VD Z t i) : VD Z2 t i := ⟨hv.1, Nat.lt_of_lt_of_le hv.2.1 h, hv.2.2⟩
theorem vv.mono {Z Z2 : Zt} (h : Z.2.1 ≤ Z2.2.1) {v : AV} (hv : vv Z v) : vv Z2 v := by
  match v, hv with
  | .inl _, _ => trivial
  | .inr (.inl _), _ => trivial
  | .inr (.inr none), _ => trivial
  | .inr (.inr (some _)), hv => exact hv.imp id (VD.mono h)
theorem Wo.at {E : En} {I : It} {L : Lt} {R : Rt} {Z : Zt} {H : Heap} (h : Wo E I L R Z H) {t i : Nat} (hv : VD Z t i) : va_at E.1 classes (ad E t i, cellE E I L R Z t i) H := by
  have h1 := h.2.1 (adr t i) hv.2.1
  rw [hv.2.2] at h1
  unfold ad
  rw [if_pos hv.1]
  exact h1
theorem VD.inj {Z : Zt} {E : En} {t i t2 i2 : Nat} (h : VD Z t i) (h2 : VD Z t2 i2) (e : ad E t i = ad E t2 i2) : t = t2 ∧ i = i2 := by
  unfold ad at e
  rw [if_pos h.1, if_pos h2.1] at e
  have e2 : adr t i = adr t2 i2 := by omega
  have h3 := h.2.2
  rw [e2, h2.2.2] at h3
  exact ⟨(Prod.mk.inj h3).1.symm, (Prod.mk.inj h3).2.symm⟩
/-- one cell is written -/
theorem Wo.put {E : En} {I I2 : It} {L L2 : Lt} {R R2 : Rt} {Z : Zt} {H H2 : Heap} (h : Wo E I L R Z H) {t i : Nat} (hv : VD Z t i) (hz : H2.size = H.size) (ho : ∀ q, q ≠ ad E t i → H2[q]? = H[q]?)
    (hc : va_at E.1 classes (ad E t i, cellE E I2 L2 R2 Z t i) H2) (hn : ∀ t2 i2, ¬ (t2 = t ∧ i2 = i) → I2 t2 i2 = I t2 i2 ∧ L2 t2 i2 = L t2 i2 ∧ R2 t2 i2 = R t2 i2) (hr : ∀ k q, R2 t i k = some q → vv Z (vr q.1 q.2)) : Wo E I2 L2 R2 Z H2 := by
  have ha : ad E t i = E.2.2.1 + adr t i := by unfold ad; rw [if_pos hv.1]
  refine ⟨hz.trans h.1, fun k hk => ?_, fun t2 i2 k q hq hv2 => ?_⟩
  · by_cases e : (who k).1 = t ∧ (who k).2 = i
    · have e2 : adr t i = k := by rw [← e.1, ← e.2]; exact (adr_who k).1
      rw [e.1, e.2, ← e2, ← ha]
      exact hc
    · obtain ⟨e1, e2, e3⟩ := hn _ _ e
      have e4 : cellE E I2 L2 R2 Z (who k).1 (who k).2 = cellE E I L R Z (who k).1 (who k).2 := by
        have e5 : fV E I2 R2 (who k).1 (who k).2 = fV E I R (who k).1 (who k).2 := by
          funext j
          unfold fV
          rw [e1, e3]
        unfold cellE
        rw [e1, e2, e3, e5]
      rw [e4]
      refine (h.2.1 k hk).kept (ho _ (fun q => e ?_))
      have q2 : k = adr t i := by
        have q : E.2.2.1 + k = ad E t i := q
        omega
      rw [q2, hv.2.2]
      exact ⟨rfl, rfl⟩
  · by_cases e : t2 = t ∧ i2 = i
    · obtain ⟨rfl, rfl⟩ := e
      exact hr k q hq
    · rw [(hn t2 i2 e).2.2] at hq
      exact h.2.2 t2 i2 k q hq hv2
/-- pointwise changes -/
def sI (I : It) (t i k : Nat) (x : Int32) : It := fun t2 i2 k2 => if t2 = t ∧ i2 = i then (if k2 = k then x else I t2 i2 k2) else I t2 i2 k2
def sL (L : Lt) (t i k : Nat) (x : Int64) : Lt := fun t2 i2 k2 => if t2 = t ∧ i2 = i then (if k2 = k then x else L t2 i2 k2) else L t2 i2 k2
def sR (R : Rt) (t i k : Nat) (x : Option (Nat × Nat)) : Rt := fun t2 i2 k2 => if t2 = t ∧ i2 = i then (if k2 = k then x else R t2 i2 k2) else R t2 i2 k2
theorem sI_n {I : It} {t i k : Nat} {x : Int32} {t2 i2 : Nat} (h : ¬ (t2 = t ∧ i2 = i)) : sI I t i k x t2 i2 = I t2 i2 := by funext j; unfold sI; rw [if_neg h]
theorem sL_n {I : Lt} {t i k : Nat} {x : Int64} {t2 i2 : Nat} (h : ¬ (t2 = t ∧ i2 = i)) : sL I t i k x t2 i2 = I t2 i2 := by funext j; unfold sL; rw [if_neg h]
theorem sR_n {I : Rt} {t i k : Nat} {x : Option (Nat × Nat)} {t2 i2 : Nat} (h : ¬ (t2 = t ∧ i2 = i)) : sR I t i k x t2 i2 = I t2 i2 := by funext j; unfold sR; rw [if_neg h]
theorem sI_s (I : It) (t i k : Nat) (x : Int32) : sI I t i k x t i = upd (I t i) k x := by funext j; unfold sI upd; rw [if_pos ⟨rfl, rfl⟩]
theorem sL_s (I : Lt) (t i k : Nat) (x : Int64) : sL I t i k x t i = vp_updL (I t i) k x := by funext j; unfold sL vp_updL; rw [if_pos ⟨rfl, rfl⟩]
theorem sR_s (I : Rt) (t i k : Nat) (x : Option (Nat × Nat)) : sR I t i k x t i = va_up (I t i) k x := by funext j; unfold sR va_up; rw [if_pos ⟨rfl, rfl⟩]
