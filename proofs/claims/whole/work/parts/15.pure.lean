/-! ===== loops, counts, machines as values ===== -/
theorem up_loop {P : Nat → Prop} {N : Nat} (h : ∀ i, i ≤ N → (i < N → P (i + 1)) → P i) : ∀ i, i ≤ N → P i := by
  have key : ∀ n i, i + n = N → P i := by
    intro n
    induction n with
    | zero => intro i hi; exact h i (by omega) (fun q => absurd q (by omega))
    | succ n ih => intro i hi; exact h i (by omega) (fun _ => ih (i + 1) (by omega))
  intro i hi
  exact key (N - i) i (by omega)
theorem dn_loop {P : Nat → Prop} (h0 : P 0) (h : ∀ i, P i → P (i + 1)) : ∀ i, P i := fun i => by
  induction i with
  | zero => exact h0
  | succ n ih => exact h n ih
def cnt (P : Nat → Bool) : Nat → Nat
  | 0 => 0
  | n + 1 => cnt P n + (if P n then 1 else 0)
theorem cnt_t {P : Nat → Bool} {n : Nat} (h : P n = true) : cnt P (n + 1) = cnt P n + 1 := by
  show cnt P n + (if P n then 1 else 0) = _
  rw [if_pos h]
theorem cnt_f {P : Nat → Bool} {n : Nat} (h : P n = false) : cnt P (n + 1) = cnt P n := by
  show cnt P n + (if P n then 1 else 0) = _
  rw [if_neg (by rw [h]; decide)]
  rfl
theorem cnt_le (P : Nat → Bool) : ∀ n, cnt P n ≤ n
  | 0 => Nat.le_refl _
  | n + 1 => by
    have := cnt_le P n
    show cnt P n + (if P n then 1 else 0) ≤ n + 1
    split <;> omega
theorem cnt_congr {P P2 : Nat → Bool} : ∀ n, (∀ i, i < n → P i = P2 i) → cnt P n = cnt P2 n
  | 0, _ => rfl
  | n + 1, h => by
    show cnt P n + (if P n then 1 else 0) = cnt P2 n + (if P2 n then 1 else 0)
    rw [cnt_congr n (fun i hi => h i (by omega)), h n (by omega)]
/-- a text: key, number, how many numbers and names, its steps (0 a number, 1 a name, 2 a sign) -/
abbrev TV : Type := Nat × Nat × Nat × List (Nat × Nat)
/-- a machine: how many parts, bonds, texts; the step; parts' fields; bonds' ends; texts -/
abbrev Mc : Type := Nat × Nat × Nat × Nat × (Nat → Nat → Nat) × (Nat → Nat) × (Nat → Nat) × (Nat → TV)
abbrev nP (V : Mc) : Nat := V.1
abbrev nB (V : Mc) : Nat := V.2.1
abbrev nX (V : Mc) : Nat := V.2.2.1
abbrev nS (V : Mc) : Nat := V.2.2.2.1
abbrev pP (V : Mc) (p f : Nat) : Nat := V.2.2.2.2.1 p f
abbrev bF (V : Mc) (b : Nat) : Nat := V.2.2.2.2.2.1 b
abbrev bT (V : Mc) (b : Nat) : Nat := V.2.2.2.2.2.2.1 b
abbrev tX (V : Mc) (j : Nat) : TV := V.2.2.2.2.2.2.2 j
/-- the height of the pile behind the first steps of a text -/
def hgt : List (Nat × Nat) → Nat → Option Nat
  | [], h => some h
  | (c, v) :: t, h => if c < 2 then hgt t (h + 1) else if v = 33 then (if 1 ≤ h then hgt t h else none) else (if 2 ≤ h then hgt t (h - 1) else none)
def okStep (q : Nat × Nat) : Bool := (q.1 == 0 && q.2 < 10000) || (q.1 == 1 && (q.2 == 116 || q.2 == 104 || q.2 == 112 || q.2 == 102)) || (q.1 == 2 && (q.2 == 33 || q.2 == 124 || q.2 == 38 || q.2 == 60 || q.2 == 61 || q.2 == 62 || q.2 == 43 || q.2 == 45 || q.2 == 42 || q.2 == 47))
def WFT (x : TV) : Prop := x.1 < 2 ∧ x.2.1 < 12 ∧ x.2.2.1 ≤ 96 ∧ x.2.2.2.length ≤ 90 ∧ (∀ q ∈ x.2.2.2, okStep q = true) ∧ hgt x.2.2.2 0 = some 1 ∧ ∀ q ∈ x.2.2.2, q.1 = 1 → (q.2 = 116 ∨ (if x.1 = 0 then q.2 = 104 else (q.2 = 112 ∨ q.2 = 102)))
def WF (V : Mc) : Prop := (nP V ≤ 12 ∧ nB V ≤ 12 ∧ nX V ≤ 14 ∧ nS V ≤ 20000) ∧ (∀ p, p < nP V → pP V p 0 < 6 ∧ pP V p 1 < 2 ∧ (1 ≤ pP V p 2 ∧ pP V p 2 ≤ 10) ∧ (1 ≤ pP V p 3 ∧ pP V p 3 ≤ 10) ∧ pP V p 4 < 1000003) ∧ (∀ b, b < nB V → bF V b < nP V ∧ bT V b < nP V ∧ bF V b ≠ bT V b) ∧ (∀ j, j < nX V → WFT (tX V j))
def encS (q : Nat × Nat) : Int32 := if q.1 = 0 then nI q.2 else - nI q.2
/-- the text object x holds a text -/
def TXo (I : It) (R : Rt) (Z : Zt) (x : Nat) (v : TV) : Prop := I 7 x 0 = nI v.1 ∧ I 7 x 1 = nI v.2.1 ∧ I 7 x 2 = nI v.2.2.1 ∧ R 7 x 3 = some (27, x) ∧ Z.1 x = v.2.2.2.length ∧ ∀ i q, v.2.2.2[i]? = some q → I 27 x i = encS q
/-- the object machine k holds a machine -/
def CM (I : It) (R : Rt) (Z : Zt) (k : Nat) (V : Mc) : Prop :=
  (I 2 k 4 = nI (nP V) ∧ I 2 k 5 = nI (nB V) ∧ I 2 k 6 = nI (nX V) ∧ I 2 k 7 = nI (nS V)) ∧ (∀ p f, p < nP V → f < 5 → I 3 (12 * k + p) f = nI (pP V p f)) ∧ (∀ b, b < nB V → I 11 k b = nI (bF V b)) ∧ (∀ b, b < nB V → I 12 k b = nI (bT V b)) ∧ ∀ j, j < nX V → ∃ x, R 13 k j = some (7, x) ∧ TXo I R Z x (tX V j)
def atB (V : Mc) (p b : Nat) : Bool := bF V b == p || bT V b == p
def ends (V : Mc) (p : Nat) : Nat := cnt (atB V p) (nB V)
theorem ends_le {V : Mc} (p : Nat) : ends V p ≤ nB V := cnt_le _ _
theorem atB_F {V : Mc} {p b : Nat} (h : bF V b = p) : atB V p b = true := by unfold atB; simp [h]
theorem atB_T {V : Mc} {p b : Nat} (h : bT V b = p) : atB V p b = true := by unfold atB; simp [h]
theorem atB_N {V : Mc} {p b : Nat} (h : ¬ bF V b = p) (h2 : ¬ bT V b = p) : atB V p b = false := by unfold atB; simp [h, h2]
/-- the first place from a on, or n -/
def fst' (P : Nat → Bool) (n a : Nat) : Nat := if a < n then (if P a then a else fst' P n (a + 1)) else n
termination_by n - a
theorem fst_ge {P : Nat → Bool} {n a : Nat} (h : n ≤ a) : fst' P n a = n := by
  unfold fst'
  rw [if_neg (by omega)]
theorem fst_t {P : Nat → Bool} {n a : Nat} (h : a < n) (hp : P a = true) : fst' P n a = a := by
  unfold fst'
  rw [if_pos h, if_pos hp]
theorem fst_f {P : Nat → Bool} {n a : Nat} (h : a < n) (hp : P a = false) : fst' P n a = fst' P n (a + 1) := by
  rw [fst', if_pos h, if_neg (by rw [hp]; decide)]
theorem fst_spec (P : Nat → Bool) (n : Nat) : ∀ a, a ≤ n → (fst' P n a ≤ n ∧ a ≤ fst' P n a ∧ (fst' P n a < n → P (fst' P n a) = true) ∧ ∀ j, a ≤ j → j < fst' P n a → P j = false) :=
  up_loop (fun a ha ih => by
    by_cases h : a < n
    · cases hp : P a with
      | true =>
        rw [fst_t h hp]
        exact ⟨by omega, Nat.le_refl _, fun _ => hp, fun j h1 h2 => by omega⟩
      | false =>
        rw [fst_f h hp]
        obtain ⟨i1, i2, i3, i4⟩ := ih h
        refine ⟨i1, by omega, i3, fun j h1 h2 => ?_⟩
        by_cases e : j = a
        · rw [e]; exact hp
        · exact i4 j (by omega) h2
    · rw [fst_ge (by omega)]
      exact ⟨Nat.le_refl _, ha, fun q => absurd q (by omega), fun j h1 h2 => by omega⟩)
section RD
variable {l : Launch} {E : En} {d : Nat} {M : Mt} {Z0 : Zt} {pc pc2 : Nat} {ls : List (Option AV)} {st : List AV} {I : It} {L : Lt} {R : Rt} {Z : Zt} {Q : Qt}
/-- reads, by what is known of the place -/
theorem aw_getE {idx t i f : Nat} {x : Int32} (hd : Dc M pc (.getfield idx) 3 pc2) (hl : FL M.1.cls idx t f) (hx : I t i f = x) (k : AWq l E d M Z0 pc2 ls (vi x :: st) I L R Z Q) (hf : fr t f = false := by rfl) : AWq l E d M Z0 pc ls (vr t i :: st) I L R Z Q := by
  subst hx
  exact aw_getI hd hl k hf
theorem aw_ialE {t i n : Nat} {x y : Int32} (hd : Dc M pc .iaload 1 pc2) (hx : x = nI n) (hn : n < alen Z t i) (hb : n < 2147483648) (hy : I t i n = y) (k : AWq l E d M Z0 pc2 ls (vi y :: st) I L R Z Q) (ht : 10 ≤ t ∧ t < 50 ∧ tc t = 0 := by exact ⟨by decide, by decide, rfl⟩) : AWq l E d M Z0 pc ls (vi x :: vr t i :: st) I L R Z Q := by
  subst hy
  exact aw_iald hd hx hn hb k ht
end RD
