/-! ===== rows as equations over the prime ===== -/
def dt (row x : Nat → Nat) : Nat → Nat
  | 0 => 0
  | n + 1 => dt row x n + row n * x n
def eqn (w : Nat) (row x : Nat → Nat) : Prop := dt row x w % 1000003 = row w
theorem dt_z {row x : Nat → Nat} : ∀ n, (∀ c, c < n → row c * x c = 0) → dt row x n = 0
  | 0, _ => rfl
  | n + 1, h => by
    show dt row x n + row n * x n = 0
    rw [dt_z n (fun c hc => h c (by omega)), h n (by omega)]
theorem dt_1 {row x : Nat → Nat} {a : Nat} : ∀ n, a < n → (∀ c, c < n → ¬ c = a → row c * x c = 0) → dt row x n = row a * x a
  | 0, h, _ => absurd h (Nat.not_lt_zero _)
  | n + 1, h, hz => by
    show dt row x n + row n * x n = _
    by_cases e : n = a
    · subst e
      rw [dt_z n (fun c hc => hz c (by omega) (by omega)), Nat.zero_add]
    · rw [dt_1 n (by omega) (fun c hc => hz c (by omega)), hz n (by omega) e]
      rfl
theorem dt_2 {row x : Nat → Nat} {a b : Nat} (hab : a ≠ b) : ∀ n, a < n → b < n → (∀ c, c < n → ¬ c = a → ¬ c = b → row c * x c = 0) → dt row x n = row a * x a + row b * x b
  | 0, h, _, _ => absurd h (Nat.not_lt_zero _)
  | n + 1, ha, hb, hz => by
    show dt row x n + row n * x n = _
    by_cases e : n = a
    · subst e
      rw [dt_1 (a := b) n (by omega) (fun c hc h => hz c (by omega) (by omega) h)]
      omega
    · by_cases e2 : n = b
      · subst e2
        rw [dt_1 (a := a) n (by omega) (fun c hc h => hz c (by omega) h (by omega))]
      · rw [dt_2 hab n (by omega) (by omega) (fun c hc => hz c (by omega)), hz n (by omega) e e2]
        rfl
theorem dt_cg {row row2 x : Nat → Nat} : ∀ n, (∀ c, c < n → row c = row2 c) → dt row x n = dt row2 x n
  | 0, _ => rfl
  | n + 1, h => by
    show dt row x n + row n * x n = dt row2 x n + row2 n * x n
    rw [dt_cg n (fun c hc => h c (by omega)), h n (by omega)]
theorem dt_cx {row x y : Nat → Nat} : ∀ n, (∀ c, c < n → x c = y c) → dt row x n = dt row y n
  | 0, _ => rfl
  | n + 1, h => by
    show dt row x n + row n * x n = dt row y n + row n * y n
    rw [dt_cx n (fun c hc => h c (by omega)), h n (by omega)]
/-- numbers below the prime that agree by it -/
theorem eqP {a b : Nat} (ha : a < 1000003) (hb : b < 1000003) (h : a % 1000003 = b % 1000003) : a = b := by
  rwa [Nat.mod_eq_of_lt ha, Nat.mod_eq_of_lt hb] at h
theorem subP {a t y : Nat} (ha : a < 1000003) (ht : t ≤ 1000003) : (a + (1000003 - t) * y) % 1000003 = 0 ↔ a = t * y % 1000003 := by
  have e : (1000003 - t) * y + t * y = 1000003 * y := by rw [← Nat.add_mul]; congr 1; omega
  have hm := modP (t * y)
  constructor
  · intro h
    have h1 : (a + 1000003 * y) % 1000003 = (t * y) % 1000003 := by
      rw [← e, ← Nat.add_assoc, Nat.add_mod, h, Nat.zero_add, Nat.mod_mod]
    rw [Nat.add_mul_mod_self_left, Nat.mod_eq_of_lt ha] at h1
    exact h1
  · intro h
    have h1 : (a + (1000003 - t) * y) % 1000003 = (t * y + (1000003 - t) * y) % 1000003 := by
      rw [Nat.add_mod, Nat.add_mod (t * y), h, Nat.mod_mod]
    rw [h1, Nat.add_comm, e]
    exact Nat.mul_mod_right _ _
theorem rwT_eqn {w o1 o2 t : Nat} {x : Nat → Nat} (h1 : o1 < w) (h2 : o2 < w) (hne : o1 ≠ o2) (ht : t ≤ 1000003) (hx : ∀ c, c < w → x c < 1000003) : eqn w (rwT o1 o2 t) x ↔ x o1 = t * x o2 % 1000003 := by
  unfold eqn
  rw [dt_2 hne w h1 h2 (fun c hc e1 e2 => by unfold rwT; rw [if_neg e2, if_neg e1, Nat.zero_mul])]
  have r1 : rwT o1 o2 t o1 = 1 := by unfold rwT; rw [if_neg hne, if_pos rfl]
  have r2 : rwT o1 o2 t o2 = 1000003 - t := if_pos rfl
  have r3 : rwT o1 o2 t w = 0 := by unfold rwT; rw [if_neg (by omega), if_neg (by omega)]
  rw [r1, r2, r3, Nat.one_mul]
  exact subP (hx o1 h1) ht
/-- the law of an end -/
def rwE (kd so sh ho b w : Nat) : Nat → Nat := fun j => if j = w then (if kd = 1 then sh * ho % 1000003 else if kd = 3 then ho else 0) else if j = 2 * b + so then 1 else 0
theorem rwE_eqn {kd so sh ho b w : Nat} {x : Nat → Nat} (h1 : 2 * b + so < w) (hx : ∀ c, c < w → x c < 1000003) : eqn w (rwE kd so sh ho b w) x ↔ x (2 * b + so) = (if kd = 1 then sh * ho % 1000003 else if kd = 3 then ho else 0) := by
  unfold eqn
  rw [dt_1 w h1 (fun c hc e1 => by unfold rwE; rw [if_neg (by omega), if_neg e1, Nat.zero_mul])]
  have r1 : rwE kd so sh ho b w (2 * b + so) = 1 := by unfold rwE; rw [if_neg (by omega), if_pos rfl]
  have r3 : rwE kd so sh ho b w w = (if kd = 1 then sh * ho % 1000003 else if kd = 3 then ho else 0) := if_pos rfl
  rw [r1, r3, Nat.one_mul, Nat.mod_eq_of_lt (hx _ h1)]
set_option maxRecDepth 100000 in
theorem ivP_sm : ∀ b, b < 11 → 1 ≤ b → b * ivP b % 1000003 = 1 := by decide +kernel
theorem shW_pos {a b : Nat} (ha : 1 ≤ a ∧ a ≤ 10) (hb : 1 ≤ b ∧ b ≤ 10) : 0 < shW a b := by
  have h := ivP_sm b (by omega) hb.1
  apply Nat.pos_of_ne_zero
  intro q
  unfold shW at q
  have h2 : (b * (a * ivP b)) % 1000003 = 0 := by rw [Nat.mul_mod, q, Nat.mul_zero]
  have h3 : (b * (a * ivP b)) % 1000003 = a := by
    rw [show b * (a * ivP b) = a * (b * ivP b) by rw [Nat.mul_left_comm], Nat.mul_mod, h, Nat.mul_one, Nat.mod_mod, Nat.mod_eq_of_lt (by omega)]
  omega
/-- the parts of a join's bonds that are summed -/
def smR (V : Mc) (p so : Nat) : Nat → Nat → Nat
  | 0 => fun _ => 0
  | n + 1 => fun j => if atB V p n = true ∧ j = 2 * n + (1 - so) then (if bT V n = p then 1 else 1000002) else smR V p so n j
theorem smR_hi (V : Mc) (p so : Nat) : ∀ n j, 2 * n ≤ j → smR V p so n j = 0
  | 0, _, _ => rfl
  | n + 1, j, h => by
    unfold smR
    rw [if_neg (by omega)]
    exact smR_hi V p so n j (by omega)
theorem smR_lt (V : Mc) (p so : Nat) : ∀ n j, smR V p so n j < 1000003
  | 0, _ => by show 0 < 1000003; decide
  | n + 1, j => by
    unfold smR
    split
    · split <;> decide
    · exact smR_lt V p so n j
def fb (V : Mc) (p s : Nat) : Nat := fst' (atB V p) (nB V) s
/-- the law of a part, over pushes (2b) and paces (2b+1) -/
def lawEq (V : Mc) (p : Nat) (x : Nat → Nat) : Prop :=
  if pP V p 0 = 4 then
    (if pP V p 1 = 0 then x (2 * fb V p 0) = shW (pP V p 2) (pP V p 3) * x (2 * fb V p (fb V p 0 + 1)) % 1000003 ∧ x (2 * fb V p (fb V p 0 + 1) + 1) = shW (pP V p 2) (pP V p 3) * x (2 * fb V p 0 + 1) % 1000003
     else x (2 * fb V p 0) = shW (pP V p 2) (pP V p 3) * x (2 * fb V p (fb V p 0 + 1) + 1) % 1000003 ∧ x (2 * fb V p (fb V p 0 + 1)) = shW (pP V p 2) (pP V p 3) * x (2 * fb V p 0 + 1) % 1000003)
  else if pP V p 0 = 5 then eqn (2 * nB V) (smR V p (pP V p 1) (nB V)) x ∧ ∀ b, b < nB V → atB V p b = true → x (2 * fb V p 0 + pP V p 1) = x (2 * b + pP V p 1)
  else if pP V p 0 = 2 then x (2 * fb V p 0 + pP V p 1) = shW (pP V p 2) (pP V p 3) * x (2 * fb V p 0 + (1 - pP V p 1)) % 1000003
  else x (2 * fb V p 0 + pP V p 1) = (if pP V p 0 = 1 then shW (pP V p 2) (pP V p 3) * pP V p 4 % 1000003 else if pP V p 0 = 3 then pP V p 4 else 0)
/-- counts of ends -/
def sumE (V : Mc) (m : Nat) : Nat → Nat
  | 0 => 0
  | n + 1 => sumE V m n + cnt (atB V n) m
theorem two_q {f t : Nat} (hne : f ≠ t) : ∀ n, cnt (fun q => f == q || t == q) n = (if f < n then 1 else 0) + (if t < n then 1 else 0)
  | 0 => by simp [cnt]
  | n + 1 => by
    show cnt _ n + (if (f == n || t == n) = true then 1 else 0) = _
    rw [two_q hne n]
    by_cases e1 : f = n
    · subst e1
      have e2 : ¬ t = f := fun q => hne q.symm
      simp [e2]
      have : (t < f + 1) ↔ t < f := by omega
      simp [this]
      omega
    · by_cases e2 : t = n
      · subst e2
        simp
        have : (f < t + 1) ↔ f < t := by omega
        simp [this]
      · have f1 : (f < n + 1) ↔ f < n := by omega
        have f2 : (t < n + 1) ↔ t < n := by omega
        simp [e1, e2, f1, f2]
theorem sumE_m (V : Mc) (m : Nat) : ∀ n, sumE V (m + 1) n = sumE V m n + cnt (fun q => atB V q m) n
  | 0 => rfl
  | n + 1 => by
    show sumE V (m + 1) n + cnt (atB V n) (m + 1) = sumE V m n + cnt (atB V n) m + (cnt (fun q => atB V q m) n + (if atB V n m then 1 else 0))
    rw [sumE_m V m n]
    show _ + (cnt (atB V n) m + (if atB V n m then 1 else 0)) = _
    omega
theorem sumE_all {V : Mc} (hW : WF V) : ∀ m, m ≤ nB V → sumE V m (nP V) = 2 * m
  | 0, _ => by
    have : ∀ n, sumE V 0 n = 0 := by
      intro n
      induction n with
      | zero => rfl
      | succ n ih => show sumE V 0 n + 0 = 0; rw [ih]
    rw [this]
  | m + 1, h => by
    obtain ⟨h1, h2, h3⟩ := hW.2.2.1 m (by omega)
    rw [sumE_m, sumE_all hW m (by omega)]
    have := two_q h3 (nP V)
    rw [if_pos h1, if_pos h2] at this
    have e : cnt (fun q => atB V q m) (nP V) = cnt (fun q => bF V m == q || bT V m == q) (nP V) := rfl
    omega
theorem sumE_mono (V : Mc) (m : Nat) : ∀ n k, sumE V m n ≤ sumE V m (n + k)
  | n, 0 => Nat.le_refl _
  | n, k + 1 => by
    have := sumE_mono V m n k
    show sumE V m n ≤ sumE V m (n + k) + _
    omega
theorem sumE_le {V : Mc} (hW : WF V) {p : Nat} (hp : p < nP V) : sumE V (nB V) p + ends V p ≤ 2 * nB V := by
  have h1 := sumE_all hW (nB V) (Nat.le_refl _)
  have h2 := sumE_mono V (nB V) (p + 1) (nP V - (p + 1))
  rw [show p + 1 + (nP V - (p + 1)) = nP V by omega, h1] at h2
  exact h2
