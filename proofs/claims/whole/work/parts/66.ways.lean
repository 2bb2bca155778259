/-! ===== ways and pieces ===== -/
theorem nb_bit {V : Mc} {m q : Nat} : ∀ n, (nbL V m n).testBit q = true ↔ m.testBit q = true ∨ ∃ b, b < n ∧ (m.testBit (bF V b) = true ∨ m.testBit (bT V b) = true) ∧ (q = bF V b ∨ q = bT V b)
  | 0 => ⟨Or.inl, fun h => h.elim id (fun ⟨b, hb, _⟩ => absurd hb (Nat.not_lt_zero b))⟩
  | n + 1 => by
    have ih := nb_bit (V := V) (m := m) (q := q) n
    unfold nbL
    by_cases h : (m.testBit (bF V n) || m.testBit (bT V n)) = true
    · rw [if_pos h, Nat.testBit_or, Nat.testBit_or, Bool.or_eq_true, Bool.or_eq_true, ih, Nat.testBit_two_pow, Nat.testBit_two_pow]
      rw [Bool.or_eq_true] at h
      constructor
      · rintro ((h1 | ⟨b, hb, h2, h3⟩) | h4 | h4)
        · exact Or.inl h1
        · exact Or.inr ⟨b, by omega, h2, h3⟩
        · exact Or.inr ⟨n, by omega, h, Or.inl (of_decide_eq_true h4).symm⟩
        · exact Or.inr ⟨n, by omega, h, Or.inr (of_decide_eq_true h4).symm⟩
      · rintro (h1 | ⟨b, hb, h2, h3⟩)
        · exact Or.inl (Or.inl h1)
        · by_cases e : b = n
          · subst e
            rcases h3 with h3 | h3
            · exact Or.inr (Or.inl (decide_eq_true h3.symm))
            · exact Or.inr (Or.inr (decide_eq_true h3.symm))
          · exact Or.inl (Or.inr ⟨b, by omega, h2, h3⟩)
    · rw [if_neg h, ih]
      rw [Bool.or_eq_true] at h
      constructor
      · rintro (h1 | ⟨b, hb, h2, h3⟩)
        · exact Or.inl h1
        · exact Or.inr ⟨b, by omega, h2, h3⟩
      · rintro (h1 | ⟨b, hb, h2, h3⟩)
        · exact Or.inl h1
        · by_cases e : b = n
          · subst e; exact absurd h2 h
          · exact Or.inr ⟨b, by omega, h2, h3⟩
def aj (V : Mc) (w q : Nat) : Prop := ∃ b, b < nB V ∧ ((w = bF V b ∧ q = bT V b) ∨ (w = bT V b ∧ q = bF V b))
theorem aj_s {V : Mc} {w q : Nat} (h : aj V w q) : aj V q w := by
  obtain ⟨b, hb, h⟩ := h
  exact ⟨b, hb, by omega⟩
theorem nb_aj {V : Mc} {m q : Nat} : (nbL V m (nB V)).testBit q = true ↔ m.testBit q = true ∨ ∃ w, m.testBit w = true ∧ aj V w q := by
  rw [nb_bit]
  constructor
  · rintro (h1 | ⟨b, hb, h2, h3⟩)
    · exact Or.inl h1
    · rcases h3 with h3 | h3
      · rcases h2 with h2 | h2
        · rw [h3]; exact Or.inl h2
        · exact Or.inr ⟨_, h2, b, hb, Or.inr ⟨rfl, h3⟩⟩
      · rcases h2 with h2 | h2
        · exact Or.inr ⟨_, h2, b, hb, Or.inl ⟨rfl, h3⟩⟩
        · rw [h3]; exact Or.inl h2
  · rintro (h1 | ⟨w, h2, b, hb, h3⟩)
    · exact Or.inl h1
    · rcases h3 with ⟨e1, e2⟩ | ⟨e1, e2⟩
      · exact Or.inr ⟨b, hb, Or.inl (e1 ▸ h2), Or.inr e2⟩
      · exact Or.inr ⟨b, hb, Or.inr (e1 ▸ h2), Or.inl e2⟩
def sb (a b : Nat) : Prop := ∀ q, a.testBit q = true → b.testBit q = true
theorem nb_ge (V : Mc) (m : Nat) : sb m (nbL V m (nB V)) := fun q h => nb_aj.2 (Or.inl h)
theorem nb_sb {V : Mc} {a b : Nat} (h : sb a b) : sb (nbL V a (nB V)) (nbL V b (nB V)) := fun q hq => by
  rcases nb_aj.1 hq with h1 | ⟨w, h1, h2⟩
  · exact nb_aj.2 (Or.inl (h q h1))
  · exact nb_aj.2 (Or.inr ⟨w, h w h1, h2⟩)
abbrev itN (V : Mc) (n x : Nat) : Nat := iter (fun m => nbL V m (nB V)) n x
theorem it_sb {V : Mc} {a b : Nat} (h : sb a b) : ∀ n, sb (itN V n a) (itN V n b)
  | 0 => h
  | n + 1 => by
    rw [itN, itN, iter_s, iter_s]
    exact nb_sb (it_sb h n)
def ms (V : Mc) (p n : Nat) : Nat := itN V n (2 ^ p)
theorem ms_s (V : Mc) (p n : Nat) : ms V p (n + 1) = nbL V (ms V p n) (nB V) := iter_s _ _ _
theorem ms_0 {V : Mc} {p q : Nat} : (ms V p 0).testBit q = true ↔ p = q := by
  show (2 ^ p).testBit q = true ↔ _
  rw [Nat.testBit_two_pow, decide_eq_true_eq]
theorem ms_le {V : Mc} {p n : Nat} : ∀ k, sb (ms V p n) (ms V p (n + k))
  | 0 => fun _ h => h
  | k + 1 => fun q h => by
    show (ms V p (n + k + 1)).testBit q = true
    rw [ms_s]
    exact nb_ge V _ q (ms_le k q h)
theorem ms_mono {V : Mc} {p n m : Nat} (h : n ≤ m) : sb (ms V p n) (ms V p m) := by
  obtain ⟨k, rfl⟩ : ∃ k, m = n + k := ⟨m - n, by omega⟩
  exact ms_le k
theorem ms_lt {V : Mc} (hW : WF V) {p : Nat} (hp : p < nP V) : ∀ n q, (ms V p n).testBit q = true → q < nP V
  | 0, q, h => by rw [ms_0] at h; omega
  | n + 1, q, h => by
    rw [ms_s] at h
    rcases nb_aj.1 h with h1 | ⟨w, h1, b, hb, h2⟩
    · exact ms_lt hW hp n q h1
    · have := hW.2.2.1 b hb
      omega
theorem cnt_ge1 {P : Nat → Bool} {j : Nat} (hj : P j = true) : ∀ n, j < n → 1 ≤ cnt P n
  | 0, h => absurd h (Nat.not_lt_zero j)
  | n + 1, h => by
    show 1 ≤ cnt P n + (if P n then 1 else 0)
    by_cases e : j = n
    · rw [if_pos (e ▸ hj)]; omega
    · have := cnt_ge1 hj n (by omega)
      omega
theorem cnt_sub {P P2 : Nat → Bool} (h : ∀ i, P i = true → P2 i = true) : ∀ n, cnt P n ≤ cnt P2 n
  | 0 => Nat.le_refl _
  | n + 1 => by
    have ih := cnt_sub h n
    show cnt P n + (if P n then 1 else 0) ≤ cnt P2 n + (if P2 n then 1 else 0)
    by_cases e : P n = true
    · rw [if_pos e, if_pos (h n e)]; omega
    · rw [if_neg e]; split <;> omega
theorem cnt_strict {P P2 : Nat → Bool} (h : ∀ i, P i = true → P2 i = true) {j : Nat} (h1 : ¬ P j = true) (h2 : P2 j = true) : ∀ n, j < n → cnt P n + 1 ≤ cnt P2 n
  | 0, hj => absurd hj (Nat.not_lt_zero j)
  | n + 1, hj => by
    show cnt P n + (if P n then 1 else 0) + 1 ≤ cnt P2 n + (if P2 n then 1 else 0)
    by_cases e : j = n
    · subst e
      have := cnt_sub h j
      rw [if_neg h1, if_pos h2]
      omega
    · have ih := cnt_strict h h1 h2 n (by omega)
      by_cases e2 : P n = true
      · rw [if_pos e2, if_pos (h n e2)]; omega
      · rw [if_neg e2]; split <;> omega
theorem ms_gr {V : Mc} (hW : WF V) {p : Nat} (hp : p < nP V) : ∀ n, n + 1 ≤ cnt (fun j => (ms V p n).testBit j) (nP V) ∨ ∃ k, k < n ∧ ms V p (k + 1) = ms V p k
  | 0 => Or.inl (cnt_ge1 (j := p) (ms_0.2 rfl) _ hp)
  | n + 1 => by
    rcases ms_gr hW hp n with ih | ⟨k, hk, h⟩
    · by_cases e : ms V p (n + 1) = ms V p n
      · exact Or.inr ⟨n, by omega, e⟩
      · left
        have hex : ∃ j, ¬ (ms V p n).testBit j = true ∧ (ms V p (n + 1)).testBit j = true := by
          refine Classical.byContradiction (fun z => e ?_)
          apply Nat.eq_of_testBit_eq
          intro i
          cases h1 : (ms V p (n + 1)).testBit i with
          | true =>
            cases h2 : (ms V p n).testBit i with
            | true => rfl
            | false => exact absurd ⟨i, by rw [h2]; decide, h1⟩ z
          | false =>
            cases h2 : (ms V p n).testBit i with
            | true => rw [ms_mono (Nat.le_succ n) i h2] at h1; cases h1
            | false => rfl
        obtain ⟨j, h1, h2⟩ := hex
        have hs := cnt_strict (P := fun j => (ms V p n).testBit j) (P2 := fun j => (ms V p (n + 1)).testBit j) (fun i hi => ms_mono (Nat.le_succ n) i hi) h1 h2 (nP V) (ms_lt hW hp _ j h2)
        omega
    · exact Or.inr ⟨k, by omega, h⟩
theorem ms_stay {V : Mc} {p k : Nat} (h : ms V p (k + 1) = ms V p k) : ∀ j, ms V p (k + j) = ms V p k
  | 0 => rfl
  | j + 1 => by
    show ms V p (k + j + 1) = _
    rw [ms_s, ms_stay h j, ← ms_s, h]
theorem ms_end {V : Mc} (hW : WF V) {p : Nat} (hp : p < nP V) {m1 m2 : Nat} (h1 : nP V ≤ m1 + 1) (h2 : nP V ≤ m2 + 1) : ms V p m1 = ms V p m2 := by
  rcases ms_gr hW hp (nP V) with h | ⟨k, hk, h⟩
  · have := cnt_le (fun j => (ms V p (nP V)).testBit j) (nP V)
    omega
  · obtain ⟨a, ha⟩ : ∃ a, m1 = k + a := ⟨m1 - k, by omega⟩
    obtain ⟨b, hb⟩ : ∃ b, m2 = k + b := ⟨m2 - k, by omega⟩
    rw [ha, hb, ms_stay h a, ms_stay h b]
/-- what is reached at last -/
def rc (V : Mc) (p q : Nat) : Prop := (ms V p 12).testBit q = true
theorem rc_aj {V : Mc} (hW : WF V) {p w q : Nat} (hp : p < nP V) (h : rc V p w) (ha : aj V w q) : rc V p q := by
  have hn := hW.1.1
  unfold rc
  rw [ms_end hW hp (m1 := 12) (m2 := 13) (by omega) (by omega), ms_s]
  exact nb_aj.2 (Or.inr ⟨w, h, ha⟩)
theorem rc_sym0 {V : Mc} {p : Nat} : ∀ k q, (ms V p k).testBit q = true → (ms V q k).testBit p = true
  | 0, q, h => by rw [ms_0] at h ⊢; exact h.symm
  | k + 1, q, h => by
    rw [ms_s] at h
    rcases nb_aj.1 h with h1 | ⟨w, h1, h2⟩
    · exact ms_mono (Nat.le_succ k) p (rc_sym0 k q h1)
    · have h3 := rc_sym0 k w h1
      have hs : sb (2 ^ w) (nbL V (2 ^ q) (nB V)) := fun r hr => by
        rw [Nat.testBit_two_pow, decide_eq_true_eq] at hr
        subst hr
        exact nb_aj.2 (Or.inr ⟨q, by rw [Nat.testBit_two_pow_self], aj_s h2⟩)
      exact it_sb hs k p h3
theorem rc_sym {V : Mc} {p q : Nat} (h : rc V p q) : rc V q p := rc_sym0 12 q h
theorem rc_clo {V : Mc} (hW : WF V) {p i : Nat} (hp : p < nP V) (h : rc V p i) : ∀ k q, (ms V i k).testBit q = true → rc V p q
  | 0, q, hq => by rw [ms_0] at hq; exact hq ▸ h
  | k + 1, q, hq => by
    rw [ms_s] at hq
    rcases nb_aj.1 hq with h1 | ⟨w, h1, h2⟩
    · exact rc_clo hW hp h k q h1
    · exact rc_aj hW hp (rc_clo hW hp h k w h1) h2
theorem it_clo {V : Mc} {A : Nat} (hA : ∀ w q, A.testBit w = true → aj V w q → A.testBit q = true) {i : Nat} : ∀ k q, (itN V k (A ||| 2 ^ i)).testBit q = true ↔ A.testBit q = true ∨ (ms V i k).testBit q = true
  | 0, q => by
    show (A ||| 2 ^ i).testBit q = true ↔ A.testBit q = true ∨ (2 ^ i).testBit q = true
    rw [Nat.testBit_or, Bool.or_eq_true]
  | k + 1, q => by
    have ih := it_clo hA (i := i) k
    rw [itN, iter_s, ms_s, nb_aj, nb_aj]
    constructor
    · rintro (h | ⟨w, h, h2⟩)
      · rcases (ih q).1 h with h1 | h1
        · exact Or.inl h1
        · exact Or.inr (Or.inl h1)
      · rcases (ih w).1 h with h1 | h1
        · exact Or.inl (hA w q h1 h2)
        · exact Or.inr (Or.inr ⟨w, h1, h2⟩)
    · rintro (h | h | ⟨w, h, h2⟩)
      · exact Or.inl ((ih q).2 (Or.inl h))
      · exact Or.inl ((ih q).2 (Or.inr h))
      · exact Or.inr ⟨w, (ih w).2 (Or.inr h), h2⟩
theorem pcs_see {V : Mc} (hW : WF V) : ∀ n, n ≤ nP V → ∀ j, (pcs V n).2.testBit j = true ↔ ∃ q, q < n ∧ rc V q j
  | 0, _, j => by
    show (0 : Nat).testBit j = true ↔ _
    rw [Nat.zero_testBit]
    exact ⟨fun h => (by cases h), fun ⟨q, hq, _⟩ => absurd hq (Nat.not_lt_zero q)⟩
  | n + 1, hn, j => by
    have hnp := hW.1.1
    have ih := pcs_see hW n (by omega)
    have hself : rc V n n := ms_mono (Nat.zero_le 12) n (ms_0.2 rfl)
    unfold pcs
    by_cases h : (pcs V n).2.testBit n = true
    · rw [if_pos h]
      rw [ih j]
      constructor
      · rintro ⟨q, hq, h1⟩
        exact ⟨q, by omega, h1⟩
      · rintro ⟨q, hq, h1⟩
        by_cases e : q = n
        · subst e
          obtain ⟨r, hr, h2⟩ := (ih q).1 h
          exact ⟨r, hr, rc_clo hW (by omega) h2 12 j h1⟩
        · exact ⟨q, by omega, h1⟩
    · rw [if_neg h]
      show (itN V (nP V) ((pcs V n).2 ||| 2 ^ n)).testBit j = true ↔ _
      rw [it_clo (fun w q hw ha => by
        obtain ⟨r, hr, h2⟩ := (ih w).1 hw
        exact (ih q).2 ⟨r, hr, rc_aj hW (by omega) h2 ha⟩) (nP V) j, ih j, ms_end hW (p := n) (by omega) (m1 := nP V) (m2 := 12) (by omega) (by omega)]
      constructor
      · rintro (⟨q, hq, h1⟩ | h1)
        · exact ⟨q, by omega, h1⟩
        · exact ⟨n, by omega, h1⟩
      · rintro ⟨q, hq, h1⟩
        by_cases e : q = n
        · subst e; exact Or.inr h1
        · exact Or.inl ⟨q, by omega, h1⟩
def fpB (V : Mc) (p : Nat) : Bool := allB (fun q => !((ms V p 12).testBit q)) p
theorem pcs_cnt {V : Mc} (hW : WF V) : ∀ n, n ≤ nP V → (pcs V n).1 = cnt (fpB V) n
  | 0, _ => rfl
  | n + 1, hn => by
    have ih := pcs_cnt hW n (by omega)
    have hs := pcs_see hW n (by omega) n
    have hf : fpB V n = true ↔ ¬ (pcs V n).2.testBit n = true := by
      unfold fpB
      rw [allB_iff, hs]
      constructor
      · rintro h ⟨q, hq, h1⟩
        have h2 := h q hq
        rw [show (ms V n 12).testBit q = true from rc_sym h1] at h2
        cases h2
      · intro h q hq
        cases h2 : (ms V n 12).testBit q with
        | false => rfl
        | true => exact absurd ⟨q, hq, rc_sym h2⟩ h
    unfold pcs
    by_cases h : (pcs V n).2.testBit n = true
    · rw [if_pos h, cnt_f2 (fun z => hf.1 z h)]
      exact ih
    · rw [if_neg h, cnt_t (hf.2 h)]
      show (pcs V n).1 + 1 = _
      rw [ih]
/-- how far a part lies, as far as n bonds tell -/
def dsN (V : Mc) (p q n : Nat) : Nat := fst' (fun d => (ms V p d).testBit q) (n + 1) 0
def dsI (V : Mc) (p q n : Nat) : Int32 := if (ms V p n).testBit q = true then nI (dsN V p q n) else -1
theorem dsN_sp {V : Mc} {p q n : Nat} (h : (ms V p n).testBit q = true) : dsN V p q n ≤ n ∧ (ms V p (dsN V p q n)).testBit q = true ∧ ∀ d, d < dsN V p q n → (ms V p d).testBit q = false := by
  obtain ⟨h1, h2, h3, h4⟩ := fst_spec (fun d => (ms V p d).testBit q) (n + 1) 0 (Nat.zero_le _)
  have h5 : dsN V p q n ≤ n := by
    refine Nat.le_of_lt_succ (Nat.lt_of_not_le (fun z => ?_))
    have := h4 n (Nat.zero_le _) (show n < dsN V p q n by omega)
    rw [h] at this
    cases this
  exact ⟨h5, h3 (show dsN V p q n < n + 1 by omega), fun d hd => h4 d (Nat.zero_le _) hd⟩
theorem dsN_uq {V : Mc} {p q n d : Nat} (h : (ms V p n).testBit q = true) (h1 : (ms V p d).testBit q = true) (h2 : ∀ e, e < d → (ms V p e).testBit q = false) : dsN V p q n = d := by
  obtain ⟨a, b, c⟩ := dsN_sp h
  rcases Nat.lt_trichotomy (dsN V p q n) d with z | z | z
  · rw [h2 _ z] at b; cases b
  · exact z
  · rw [c d z] at h1; cases h1
theorem dsN_st {V : Mc} {p q n m : Nat} (h : (ms V p n).testBit q = true) (h2 : (ms V p m).testBit q = true) : dsN V p q n = dsN V p q m := by
  obtain ⟨a, b, c⟩ := dsN_sp h2
  exact dsN_uq h b c
theorem ds_edge {V : Mc} {p u v n : Nat} (hu : (ms V p n).testBit u = true) (hv : ¬ (ms V p n).testBit v = true) (ha : aj V u v) : dsI V p u n = nI n := by
  unfold dsI
  rw [if_pos hu]
  obtain ⟨a, b, c⟩ := dsN_sp hu
  by_cases e : dsN V p u n = n
  · rw [e]
  · exfalso
    refine hv (ms_mono (show dsN V p u n + 1 ≤ n by omega) v ?_)
    rw [ms_s]
    exact nb_aj.2 (Or.inr ⟨u, b, ha⟩)
def stI (V : Mc) (p n b q : Nat) : Int32 := if (ms V p n).testBit q = true then dsI V p q n else if (nbL V (ms V p n) b).testBit q = true then nI (n + 1) else -1
theorem stI_0 (V : Mc) (p n q : Nat) : stI V p n 0 q = dsI V p q n := by
  unfold stI
  by_cases h : (ms V p n).testBit q = true
  · rw [if_pos h]
  · rw [if_neg h]
    show (if (ms V p n).testBit q = true then _ else _) = _
    rw [if_neg h]
    unfold dsI
    rw [if_neg h]
theorem stI_e (V : Mc) (p n q : Nat) : stI V p n (nB V) q = dsI V p q (n + 1) := by
  unfold stI
  by_cases h : (ms V p n).testBit q = true
  · have h2 := ms_mono (V := V) (p := p) (Nat.le_succ n) q h
    rw [if_pos h]
    unfold dsI
    rw [if_pos h, if_pos h2, dsN_st h h2]
  · rw [if_neg h, ← ms_s]
    unfold dsI
    by_cases h2 : (ms V p (n + 1)).testBit q = true
    · rw [if_pos h2, if_pos h2, dsN_uq h2 h2 (fun e he => Bool.eq_false_iff.2 (fun z => h (ms_mono (Nat.le_of_lt_succ he) q z)))]
    · rw [if_neg h2, if_neg h2]
theorem dsI_T {V : Mc} {p q n : Nat} (hn : n < 1000) : ((dsI V p q n).toInt < 0 ↔ ¬ (ms V p n).testBit q = true) ∧ (dsI V p q n).toInt ≤ (n : Int) := by
  unfold dsI
  by_cases h : (ms V p n).testBit q = true
  · have a := (dsN_sp h).1
    rw [if_pos h, nT (by omega)]
    exact ⟨⟨fun z => by omega, fun z => absurd h z⟩, by omega⟩
  · rw [if_neg h]
    exact ⟨⟨fun _ => h, fun _ => by decide⟩, by show (-1 : Int) ≤ _; omega⟩
theorem stI_T {V : Mc} {p n b q : Nat} (hn : n < 1000) : (¬ (ms V p n).testBit q = true → ¬ stI V p n b q = nI n ∧ ((stI V p n b q).toInt < 0 ↔ ¬ (nbL V (ms V p n) b).testBit q = true)) ∧ ((ms V p n).testBit q = true → stI V p n b q = dsI V p q n ∧ ¬ (stI V p n b q).toInt < 0) := by
  unfold stI
  constructor
  · intro h
    rw [if_neg h]
    by_cases h2 : (nbL V (ms V p n) b).testBit q = true
    · rw [if_pos h2]
      exact ⟨fun z => by have := (nI_eq (by omega) (by omega)).1 z; omega, fun z => by rw [nT (by omega)] at z; omega, fun z => absurd h2 z⟩
    · rw [if_neg h2]
      refine ⟨fun z => ?_, fun _ => h2, fun _ => by decide⟩
      have e := congrArg Int32.toInt z
      rw [nT (by omega)] at e
      exact absurd e (show ¬ (-1 : Int) = (n : Int) by omega)
  · intro h
    rw [if_pos h]
    exact ⟨rfl, fun z => (dsI_T hn).1.1 z h⟩
theorem nb_sc {V : Mc} {m b q : Nat} : (nbL V m (b + 1)).testBit q = true ↔ (nbL V m b).testBit q = true ∨ ((m.testBit (bF V b) = true ∨ m.testBit (bT V b) = true) ∧ (q = bF V b ∨ q = bT V b)) := by
  rw [nb_bit, nb_bit]
  constructor
  · rintro (h1 | ⟨c, hc, h2, h3⟩)
    · exact Or.inl (Or.inl h1)
    · by_cases e : c = b
      · subst e; exact Or.inr ⟨h2, h3⟩
      · exact Or.inl (Or.inr ⟨c, by omega, h2, h3⟩)
  · rintro ((h1 | ⟨c, hc, h2, h3⟩) | ⟨h2, h3⟩)
    · exact Or.inl h1
    · exact Or.inr ⟨c, by omega, h2, h3⟩
    · exact Or.inr ⟨b, by omega, h2, h3⟩
theorem stI_o {V : Mc} {p n b q : Nat} (h1 : q ≠ bF V b) (h2 : q ≠ bT V b) : stI V p n (b + 1) q = stI V p n b q := by
  have e : (nbL V (ms V p n) (b + 1)).testBit q = (nbL V (ms V p n) b).testBit q := Bool.eq_iff_iff.2 (by rw [nb_sc]; exact ⟨fun z => z.elim id (fun z => absurd z.2 (by omega)), Or.inl⟩)
  unfold stI
  rw [e]
/-- one end of a bond: x here, y there -/
theorem stI_u {V : Mc} {p n b x y : Nat} (hn : n < 1000) (hb : b < nB V) (hxy : (x = bF V b ∧ y = bT V b) ∨ (x = bT V b ∧ y = bF V b)) {z : Int32} (hz : z = stI V p n b y ∨ z = stI V p n (b + 1) y) : (z = nI n ∧ (stI V p n b x).toInt < 0 → stI V p n (b + 1) x = nI (n + 1)) ∧ (¬ (z = nI n ∧ (stI V p n b x).toInt < 0) → stI V p n (b + 1) x = stI V p n b x) := by
  have haj : aj V y x := ⟨b, hb, by omega⟩
  by_cases hx : (ms V p n).testBit x = true
  · have e : stI V p n (b + 1) x = stI V p n b x := by unfold stI; rw [if_pos hx, if_pos hx]
    have hp := ((stI_T (V := V) (p := p) (b := b) (q := x) hn).2 hx).2
    exact ⟨fun q => absurd q.2 hp, fun _ => e⟩
  · have hT := (stI_T (V := V) (p := p) (b := b) (q := x) hn).1 hx
    by_cases hy : (ms V p n).testBit y = true
    · have hzn : z = nI n := by
        rcases hz with e | e
        · rw [e, ((stI_T hn).2 hy).1]; exact ds_edge hy hx haj
        · rw [e, ((stI_T hn).2 hy).1]; exact ds_edge hy hx haj
      have hbx : (nbL V (ms V p n) (b + 1)).testBit x = true := nb_sc.2 (Or.inr ⟨by
        rcases hxy with ⟨_, e⟩ | ⟨_, e⟩
        · exact Or.inr (e ▸ hy)
        · exact Or.inl (e ▸ hy), by omega⟩)
      have e1 : stI V p n (b + 1) x = nI (n + 1) := by unfold stI; rw [if_neg hx, if_pos hbx]
      refine ⟨fun _ => e1, fun q => ?_⟩
      have hb2 : (nbL V (ms V p n) b).testBit x = true := Decidable.byContradiction (fun w => q ⟨hzn, hT.2.2 w⟩)
      rw [e1]
      unfold stI
      rw [if_neg hx, if_pos hb2]
    · have hzn : ¬ z = nI n := by
        rcases hz with e | e
        · rw [e]; exact ((stI_T hn).1 hy).1
        · rw [e]; exact ((stI_T hn).1 hy).1
      have e : (nbL V (ms V p n) (b + 1)).testBit x = (nbL V (ms V p n) b).testBit x := Bool.eq_iff_iff.2 (by
        rw [nb_sc]
        refine ⟨fun w => w.elim id (fun w => ?_), Or.inl⟩
        rcases hxy with ⟨e1, e2⟩ | ⟨e1, e2⟩
        · rw [← e1, ← e2] at w
          exact absurd w.1 (fun v => v.elim hx hy)
        · rw [← e1, ← e2] at w
          exact absurd w.1 (fun v => v.elim hy hx))
      refine ⟨fun q => absurd q.1 hzn, fun _ => ?_⟩
      unfold stI
      rw [e]
theorem way_e {V : Mc} {p q : Nat} : ∀ n r, n + r = 12 → wayV V q n r (ms V p r) = if fst' (fun d => (ms V p d).testBit q) 12 r < 12 then nI (fst' (fun d => (ms V p d).testBit q) 12 r) else -1000000005
  | 0, r, h => by
    rw [fst_ge (by omega), if_neg (by omega)]
    rfl
  | n + 1, r, h => by
    unfold wayV
    by_cases hb : (ms V p r).testBit q = true
    · rw [if_pos hb, fst_t (P := fun d => (ms V p d).testBit q) (n := 12) (a := r) (by omega) hb, if_pos (by omega)]
    · rw [if_neg hb, fst_f (P := fun d => (ms V p d).testBit q) (n := 12) (a := r) (by omega) (Bool.eq_false_iff.2 hb), ← ms_s]
      exact way_e n (r + 1) (by omega)
theorem way_ds {V : Mc} (hW : WF V) {p q : Nat} (hp : p < nP V) : wayV V q 12 0 (1 * 2 ^ p) = orN (dsI V p q 12) := by
  have hn := hW.1.1
  have e11 : ms V p 11 = ms V p 12 := ms_end hW hp (by omega) (by omega)
  have h := way_e (V := V) (p := p) (q := q) 12 0 rfl
  rw [show ms V p 0 = 1 * 2 ^ p from (Nat.one_mul _).symm] at h
  rw [h]
  unfold orN
  have hT := dsI_T (V := V) (p := p) (q := q) (n := 12) (by decide)
  have hs := fst_spec (fun d => (ms V p d).testBit q) 12 0 (Nat.zero_le _)
  by_cases hq : (ms V p 12).testBit q = true
  · have hlt : fst' (fun d => (ms V p d).testBit q) 12 0 < 12 := Nat.lt_of_not_le (fun z => by
      have := hs.2.2.2 11 (Nat.zero_le _) (by omega)
      rw [e11, hq] at this
      cases this)
    rw [if_pos hlt, if_neg (fun z => hT.1.1 z hq)]
    unfold dsI
    rw [if_pos hq, dsN_uq hq (hs.2.2.1 hlt) (fun e he => hs.2.2.2 e (Nat.zero_le _) he)]
  · have hlt : ¬ fst' (fun d => (ms V p d).testBit q) 12 0 < 12 := fun z => hq (ms_mono (Nat.le_of_lt z) q (hs.2.2.1 z))
    rw [if_neg hlt, if_pos (hT.1.2 hq)]
