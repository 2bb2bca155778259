/-! ===== the tape read, as values ===== -/
def isLt (x : Int32) : Bool := decide (97 ≤ x.toInt) && decide (x.toInt ≤ 122)
def isDg (x : Int32) : Bool := decide (48 ≤ x.toInt) && decide (x.toInt ≤ 57)
theorem isLt_iff {x : Int32} : isLt x = true ↔ 97 ≤ x.toInt ∧ x.toInt ≤ 122 := by unfold isLt; rw [Bool.and_eq_true, decide_eq_true_eq, decide_eq_true_eq]
theorem isDg_iff {x : Int32} : isDg x = true ↔ 48 ≤ x.toInt ∧ x.toInt ≤ 57 := by unfold isDg; rw [Bool.and_eq_true, decide_eq_true_eq, decide_eq_true_eq]
abbrev TB : Type := Nat × (Nat → Int32)
def srt (t : TB) (j : Nat) : Nat := if j < t.1 then (if isLt (t.2 j) = true then 1 else if isDg (t.2 j) = true then 2 else 3) else 0
theorem srt_le (t : TB) (j : Nat) : srt t j ≤ 3 := by
  unfold srt
  split
  · split
    · decide
    · split <;> decide
  · decide
def skp (t : TB) (j : Nat) : Nat := fst' (fun j => !(decide (t.2 j = nI 32))) t.1 j
def xtd (t : TB) (so j : Nat) : Nat := fst' (fun j => !(srt t j == so)) t.1 j
/-- a word: where it begins, where it ends, its sort -/
abbrev Wd : Type := Nat × Nat × Nat
def nxW (t : TB) (x : Wd) : Wd := if srt t (skp t x.2.1) = 0 then (skp t x.2.1, skp t x.2.1, 0) else if srt t (skp t x.2.1) = 3 then (skp t x.2.1, skp t x.2.1 + 1, 3) else (skp t x.2.1, xtd t (srt t (skp t x.2.1)) (skp t x.2.1 + 1), if (x.2.2 = 1 ∨ x.2.2 = 2) ∧ skp t x.2.1 = x.2.1 then 4 else srt t (skp t x.2.1))
def WdO (t : TB) (x : Wd) : Prop := x.1 ≤ x.2.1 ∧ x.2.1 ≤ t.1 ∧ x.2.2 ≤ 4 ∧ (x.2.2 ≠ 0 → x.1 < x.2.1) ∧ (x.2.2 = 1 → ∀ j, x.1 ≤ j → j < x.2.1 → isLt (t.2 j) = true) ∧ (x.2.2 = 2 → ∀ j, x.1 ≤ j → j < x.2.1 → isDg (t.2 j) = true)
theorem srt_1 {t : TB} {j : Nat} (h : srt t j = 1) : j < t.1 ∧ isLt (t.2 j) = true := by
  unfold srt at h
  split at h
  · split at h
    · rename_i a b; exact ⟨a, b⟩
    · split at h <;> omega
  · omega
theorem srt_2 {t : TB} {j : Nat} (h : srt t j = 2) : j < t.1 ∧ isDg (t.2 j) = true := by
  unfold srt at h
  split at h
  · split at h
    · omega
    · split at h
      · rename_i a _ b; exact ⟨a, b⟩
      · omega
  · omega
theorem srt_n {t : TB} {j : Nat} : srt t j = 0 ↔ ¬ j < t.1 := by
  unfold srt
  split
  · rename_i h
    constructor
    · intro z
      split at z
      · omega
      · split at z <;> omega
    · intro z; exact absurd h z
  · rename_i h; exact ⟨fun _ => h, fun _ => rfl⟩
theorem skp_sp {t : TB} {j : Nat} (h : j ≤ t.1) : j ≤ skp t j ∧ skp t j ≤ t.1 := by
  have := fst_spec (fun j => !(decide (t.2 j = nI 32))) t.1 j h
  exact ⟨this.2.1, this.1⟩
theorem xtd_sp {t : TB} {so j : Nat} (h : j ≤ t.1) : j ≤ xtd t so j ∧ xtd t so j ≤ t.1 ∧ ∀ k, j ≤ k → k < xtd t so j → srt t k = so := by
  have hs := fst_spec (fun j => !(srt t j == so)) t.1 j h
  refine ⟨hs.2.1, hs.1, fun k h1 h2 => ?_⟩
  have := hs.2.2.2 k h1 h2
  simpa using this
theorem nxW_ok {t : TB} {x : Wd} (h : x.2.1 ≤ t.1) : WdO t (nxW t x) ∧ x.2.1 ≤ (nxW t x).1 := by
  have hs := skp_sp h
  have hle := srt_le t (skp t x.2.1)
  unfold nxW
  by_cases h0 : srt t (skp t x.2.1) = 0
  · rw [if_pos h0]
    exact ⟨⟨Nat.le_refl _, hs.2, Nat.zero_le 4, fun q => absurd rfl q, fun q => absurd q (by show ¬ (0 : Nat) = 1; decide), fun q => absurd q (by show ¬ (0 : Nat) = 2; decide)⟩, hs.1⟩
  · have hlt : skp t x.2.1 < t.1 := Decidable.byContradiction (fun z => h0 (srt_n.2 z))
    rw [if_neg h0]
    by_cases h3 : srt t (skp t x.2.1) = 3
    · rw [if_pos h3]
      exact ⟨⟨Nat.le_succ _, hlt, by show (3 : Nat) ≤ 4; decide, fun _ => Nat.lt_succ_self _, fun q => absurd q (by show ¬ (3 : Nat) = 1; decide), fun q => absurd q (by show ¬ (3 : Nat) = 2; decide)⟩, hs.1⟩
    · rw [if_neg h3]
      have hx := xtd_sp (t := t) (so := srt t (skp t x.2.1)) (j := skp t x.2.1 + 1) hlt
      have hall : ∀ j, skp t x.2.1 ≤ j → j < xtd t (srt t (skp t x.2.1)) (skp t x.2.1 + 1) → srt t j = srt t (skp t x.2.1) := fun j h1 h2 => by
        by_cases e : j = skp t x.2.1
        · rw [e]
        · exact hx.2.2 j (by omega) h2
      refine ⟨⟨by show _ ≤ xtd t _ _; omega, hx.2.1, ?_, fun _ => by show _ < xtd t _ _; omega, fun q j h1 h2 => ?_, fun q j h1 h2 => ?_⟩, hs.1⟩
      · show (if _ then 4 else srt t (skp t x.2.1)) ≤ 4
        split <;> omega
      · have q2 : (if (x.2.2 = 1 ∨ x.2.2 = 2) ∧ skp t x.2.1 = x.2.1 then 4 else srt t (skp t x.2.1)) = 1 := q
        split at q2
        · omega
        · exact (srt_1 ((hall j h1 h2).trans q2)).2
      · have q2 : (if (x.2.2 = 1 ∨ x.2.2 = 2) ∧ skp t x.2.1 = x.2.1 then 4 else srt t (skp t x.2.1)) = 2 := q
        split at q2
        · omega
        · exact (srt_2 ((hall j h1 h2).trans q2)).2
def sgn (t : TB) (x : Wd) (c : Nat) : Bool := x.2.2 == 3 && decide (t.2 x.1 = nI c)
theorem sgn_iff {t : TB} {x : Wd} {c : Nat} : sgn t x c = true ↔ x.2.2 = 3 ∧ t.2 x.1 = nI c := by unfold sgn; rw [Bool.and_eq_true, beq_iff_eq, decide_eq_true_eq]
def numV (t : TB) (pl : Nat) : Nat → Nat
  | 0 => 0
  | k + 1 => 10 * numV t pl k + ((t.2 (pl + k)).toInt.toNat - 48)
def isNb (x : Wd) : Bool := x.2.2 == 2 && decide (x.2.1 - x.1 ≤ 4)
theorem isNb_iff {x : Wd} : isNb x = true ↔ x.2.2 = 2 ∧ x.2.1 - x.1 ≤ 4 := by unfold isNb; rw [Bool.and_eq_true, beq_iff_eq, decide_eq_true_eq]
theorem numV_lt {t : TB} {pl b : Nat} (h : ∀ j, pl ≤ j → j < b → isDg (t.2 j) = true) : ∀ k, pl + k ≤ b → k ≤ 4 → numV t pl k < 10 ^ k
  | 0, _, _ => by show 0 < 1; decide
  | k + 1, h1, h2 => by
    have ih := numV_lt h k (by omega) (by omega)
    have hd := isDg_iff.1 (h (pl + k) (by omega) (by omega))
    rw [Nat.pow_succ]
    show 10 * numV t pl k + ((t.2 (pl + k)).toInt.toNat - 48) < _
    omega
def lttr (t : TB) (x : Wd) : Nat := (t.2 x.1).toInt.toNat
def isNm (key : Nat) (t : TB) (x : Wd) : Bool := (x.2.2 == 1 && decide (x.2.1 - x.1 = 1)) && (decide (lttr t x = 116) || (if key = 0 then decide (lttr t x = 104) else (decide (lttr t x = 112) || decide (lttr t x = 102))))
theorem isNm_iff {key : Nat} {t : TB} {x : Wd} : isNm key t x = true ↔ (x.2.2 = 1 ∧ x.2.1 - x.1 = 1) ∧ (lttr t x = 116 ∨ (if key = 0 then lttr t x = 104 else (lttr t x = 112 ∨ lttr t x = 102))) := by
  unfold isNm
  rw [Bool.and_eq_true, Bool.and_eq_true, beq_iff_eq, decide_eq_true_eq, Bool.or_eq_true, decide_eq_true_eq]
  by_cases h : key = 0
  · rw [if_pos h, if_pos h, decide_eq_true_eq]
  · rw [if_neg h, if_neg h, Bool.or_eq_true, decide_eq_true_eq, decide_eq_true_eq]
/-- a word, the steps laid, how many numbers and names -/
abbrev Xs : Type := Wd × List (Nat × Nat) × Nat
def nxX (t : TB) (x : Xs) : Xs := (nxW t x.1, x.2)
def ptX (x : Xs) (q : Nat × Nat) : Xs := (x.1, x.2.1 ++ [q], x.2.2)
def opX (x : Xs) (q : Nat × Nat) : Xs := (x.1, x.2.1 ++ [q], x.2.2 + 1)
def jnB (t : TB) (m : Nat) (x : Wd) : Bool := if m = 0 then sgn t x 124 else if m = 1 then sgn t x 38 else if m = 2 then (sgn t x 60 || sgn t x 61 || sgn t x 62) else if m = 3 then (sgn t x 43 || sgn t x 45) else (sgn t x 42 || sgn t x 47)
def rd (t : TB) (key : Nat) : Nat → Nat → Nat → Nat → Xs → Bool × Xs
  | 0, _, _, _, x => (false, x)
  | F + 1, m, o, i, x =>
    if m < 5 then (if (rd t key F (m + 1) o i x).1 = true then rd t key F (m + 10) o i (rd t key F (m + 1) o i x).2 else rd t key F (m + 1) o i x)
    else if m = 5 then
      (if sgn t x.1 33 = true ∧ i < 8 then (if (rd t key F 5 o (i + 1) (nxX t x)).1 = true then (true, ptX (rd t key F 5 o (i + 1) (nxX t x)).2 (2, 33)) else rd t key F 5 o (i + 1) (nxX t x))
       else if sgn t x.1 40 = true ∧ o < 8 then (if (rd t key F 0 (o + 1) i (nxX t x)).1 = true ∧ sgn t (rd t key F 0 (o + 1) i (nxX t x)).2.1 41 = true then (true, nxX t (rd t key F 0 (o + 1) i (nxX t x)).2) else (false, (rd t key F 0 (o + 1) i (nxX t x)).2))
       else if isNb x.1 = true then (true, nxX t (opX x (0, numV t x.1.1 (x.1.2.1 - x.1.1))))
       else if isNm key t x.1 = true then (true, nxX t (opX x (1, lttr t x.1)))
       else (false, x))
    else (if jnB t (m - 10) x.1 = true then
        (if (rd t key F (m - 9) o i (nxX t x)).1 = true then (if m = 12 then (true, ptX (rd t key F (m - 9) o i (nxX t x)).2 (2, lttr t x.1)) else rd t key F m o i (ptX (rd t key F (m - 9) o i (nxX t x)).2 (2, lttr t x.1)))
         else rd t key F (m - 9) o i (nxX t x))
      else (true, x))
theorem rd_lv {t : TB} {key F m o i : Nat} {x : Xs} (h : m < 5) : rd t key (F + 1) m o i x = if (rd t key F (m + 1) o i x).1 = true then rd t key F (m + 10) o i (rd t key F (m + 1) o i x).2 else rd t key F (m + 1) o i x := by rw [rd, if_pos h]
theorem rd_pc {t : TB} {key F o i : Nat} {x : Xs} : rd t key (F + 1) 5 o i x = if sgn t x.1 33 = true ∧ i < 8 then (if (rd t key F 5 o (i + 1) (nxX t x)).1 = true then (true, ptX (rd t key F 5 o (i + 1) (nxX t x)).2 (2, 33)) else rd t key F 5 o (i + 1) (nxX t x))
       else if sgn t x.1 40 = true ∧ o < 8 then (if (rd t key F 0 (o + 1) i (nxX t x)).1 = true ∧ sgn t (rd t key F 0 (o + 1) i (nxX t x)).2.1 41 = true then (true, nxX t (rd t key F 0 (o + 1) i (nxX t x)).2) else (false, (rd t key F 0 (o + 1) i (nxX t x)).2))
       else if isNb x.1 = true then (true, nxX t (opX x (0, numV t x.1.1 (x.1.2.1 - x.1.1))))
       else if isNm key t x.1 = true then (true, nxX t (opX x (1, lttr t x.1)))
       else (false, x) := by rw [rd, if_neg (by decide), if_pos rfl]
theorem rd_lp {t : TB} {key F m o i : Nat} {x : Xs} : rd t key (F + 1) (m + 10) o i x = if jnB t m x.1 = true then
        (if (rd t key F (m + 1) o i (nxX t x)).1 = true then (if m = 2 then (true, ptX (rd t key F (m + 1) o i (nxX t x)).2 (2, lttr t x.1)) else rd t key F (m + 10) o i (ptX (rd t key F (m + 1) o i (nxX t x)).2 (2, lttr t x.1)))
         else rd t key F (m + 1) o i (nxX t x))
      else (true, x) := by
  rw [rd, if_neg (by omega), if_neg (by omega), show m + 10 - 10 = m by omega, show m + 10 - 9 = m + 1 by omega]
  by_cases h : jnB t m x.1 = true
  · rw [if_pos h, if_pos h]
    by_cases h2 : (rd t key F (m + 1) o i (nxX t x)).1 = true
    · rw [if_pos h2, if_pos h2]
      by_cases h3 : m = 2
      · rw [if_pos h3, if_pos (by omega)]
      · rw [if_neg h3, if_neg (by omega)]
    · rw [if_neg h2, if_neg h2]
  · rw [if_neg h, if_neg h]
theorem hgt_app : ∀ (a b : List (Nat × Nat)) (h k : Nat), hgt a h = some k → hgt (a ++ b) h = hgt b k
  | [], b, h, k, e => by cases e; rfl
  | (c, v) :: a, b, h, k, e => by
    rw [hgt_cons] at e
    show hgt ((c, v) :: (a ++ b)) h = _
    rw [hgt_cons]
    split at e
    · rename_i h1; rw [if_pos h1]; exact hgt_app a b _ _ e
    · rename_i h1
      rw [if_neg h1]
      split at e
      · rename_i h2
        rw [if_pos h2]
        split at e
        · rename_i h3; rw [if_pos h3]; exact hgt_app a b _ _ e
        · cases e
      · rename_i h2
        rw [if_neg h2]
        split at e
        · rename_i h3; rw [if_pos h3]; exact hgt_app a b _ _ e
        · cases e
def okN (key : Nat) (q : Nat × Nat) : Prop := okStep q = true ∧ (q.1 = 1 → (q.2 = 116 ∨ (if key = 0 then q.2 = 104 else (q.2 = 112 ∨ q.2 = 102))))
/-- what a good reading lays -/
def rdG (t : TB) (key : Nat) (m : Nat) (x y : Xs) : Prop := ∃ seg, y.2.1 = x.2.1 ++ seg ∧ (∀ q ∈ seg, okN key q) ∧ (m ≤ 5 → ∀ h, hgt seg h = some (h + 1)) ∧ (10 ≤ m → ∀ h, 1 ≤ h → hgt seg h = some h) ∧ seg.length + x.1.1 ≤ y.1.1 ∧ x.2.2 ≤ y.2.2 ∧ y.2.2 ≤ x.2.2 + seg.length ∧ WdO t y.1 ∧ (m ≤ 5 → x.1.1 < y.1.1)
theorem jn_sg {t : TB} {m : Nat} {x : Wd} (h : jnB t m x = true) : x.2.2 = 3 ∧ (lttr t x = 124 ∨ lttr t x = 38 ∨ lttr t x = 60 ∨ lttr t x = 61 ∨ lttr t x = 62 ∨ lttr t x = 43 ∨ lttr t x = 45 ∨ lttr t x = 42 ∨ lttr t x = 47) ∧ t.2 x.1 = nI (lttr t x) := by
  have key : ∀ c, c < 128 → sgn t x c = true → x.2.2 = 3 ∧ lttr t x = c ∧ t.2 x.1 = nI (lttr t x) := fun c hc hs => by
    obtain ⟨h1, h2⟩ := sgn_iff.1 hs
    have h3 : lttr t x = c := by unfold lttr; rw [h2, nT (by omega)]; rfl
    exact ⟨h1, h3, by rw [h3]; exact h2⟩
  unfold jnB at h
  split at h
  · have := key 124 (by decide) h; exact ⟨this.1, by omega, this.2.2⟩
  · split at h
    · have := key 38 (by decide) h; exact ⟨this.1, by omega, this.2.2⟩
    · split at h
      · rw [Bool.or_eq_true, Bool.or_eq_true] at h
        rcases h with (h | h) | h
        · have := key 60 (by decide) h; exact ⟨this.1, by omega, this.2.2⟩
        · have := key 61 (by decide) h; exact ⟨this.1, by omega, this.2.2⟩
        · have := key 62 (by decide) h; exact ⟨this.1, by omega, this.2.2⟩
      · split at h
        · rw [Bool.or_eq_true] at h
          rcases h with h | h
          · have := key 43 (by decide) h; exact ⟨this.1, by omega, this.2.2⟩
          · have := key 45 (by decide) h; exact ⟨this.1, by omega, this.2.2⟩
        · rw [Bool.or_eq_true] at h
          rcases h with h | h
          · have := key 42 (by decide) h; exact ⟨this.1, by omega, this.2.2⟩
          · have := key 47 (by decide) h; exact ⟨this.1, by omega, this.2.2⟩
theorem okN_s {key c : Nat} (h : c = 33 ∨ c = 124 ∨ c = 38 ∨ c = 60 ∨ c = 61 ∨ c = 62 ∨ c = 43 ∨ c = 45 ∨ c = 42 ∨ c = 47) : okN key (2, c) := by
  refine ⟨?_, fun q => absurd q (by show ¬ (2 : Nat) = 1; decide)⟩
  rcases h with rfl | rfl | rfl | rfl | rfl | rfl | rfl | rfl | rfl | rfl <;> rfl
theorem rdG_t {t : TB} {key m : Nat} {x y z : Xs} (h1 : rdG t key m x y) (hm : m ≤ 5) (h2 : rdG t key 10 y z) : rdG t key m x z := by
  obtain ⟨s1, a1, b1, c1, d1, e1, f1, g1, i1, j1⟩ := h1
  obtain ⟨s2, a2, b2, c2, d2, e2, f2, g2, i2, j2⟩ := h2
  refine ⟨s1 ++ s2, by rw [a2, a1, List.append_assoc], fun q hq => ?_, fun _ h => ?_, fun q => absurd q (by omega), by rw [List.length_append]; omega, by omega, by rw [List.length_append]; omega, i2, fun q => by have := j1 q; omega⟩
  · rcases List.mem_append.1 hq with z | z
    · exact b1 q z
    · exact b2 q z
  · rw [hgt_app _ _ _ _ (c1 hm h)]
    exact d2 (by omega) (h + 1) (by omega)
theorem rd_ok {t : TB} {key : Nat} : ∀ F m o i x, (m ≤ 5 ∨ (10 ≤ m ∧ m < 15)) → WdO t x.1 → (rd t key F m o i x).1 = true → rdG t key m x (rd t key F m o i x).2
  | 0, m, o, i, x, _, _, h => by cases h
  | F + 1, m, o, i, x, hm, hx, h => by
    have nxt : ∀ y : Xs, WdO t y.1 → y.1.2.2 ≠ 0 → WdO t (nxX t y).1 ∧ y.1.1 < (nxX t y).1.1 := fun y hy hne => by
      have hk := nxW_ok (t := t) (x := y.1) hy.2.1
      have := hy.2.2.2.1 hne
      exact ⟨hk.1, by have := hk.2; show _ < (nxW t y.1).1; omega⟩
    by_cases h5 : m < 5
    · rw [rd_lv h5] at h ⊢
      by_cases h1 : (rd t key F (m + 1) o i x).1 = true
      · rw [if_pos h1] at h ⊢
        have g1 := rd_ok F (m + 1) o i x (by omega) hx h1
        have g2 := rd_ok F (m + 10) o i _ (by omega) (by obtain ⟨_, _, _, _, _, _, _, _, z, _⟩ := g1; exact z) h
        have g1' : rdG t key m x (rd t key F (m + 1) o i x).2 := by
          obtain ⟨s, a, b, c, d, e, f, g, i', j⟩ := g1
          exact ⟨s, a, b, fun _ => c (by omega), fun q => absurd q (by omega), e, f, g, i', fun _ => j (by omega)⟩
        have g2' : rdG t key 10 (rd t key F (m + 1) o i x).2 (rd t key F (m + 10) o i (rd t key F (m + 1) o i x).2).2 := by
          obtain ⟨s, a, b, c, d, e, f, g, i', j⟩ := g2
          exact ⟨s, a, b, fun q => absurd q (by decide), fun _ => d (by omega), e, f, g, i', fun q => absurd q (by decide)⟩
        exact rdG_t g1' (by omega) g2'
      · rw [if_neg h1] at h
        exact absurd h h1
    · by_cases h6 : m = 5
      · subst h6
        rw [rd_pc] at h ⊢
        by_cases hb : sgn t x.1 33 = true ∧ i < 8
        · rw [if_pos hb] at h ⊢
          obtain ⟨hn1, hn2⟩ := nxt x hx (by rw [(sgn_iff.1 hb.1).1]; decide)
          by_cases h1 : (rd t key F 5 o (i + 1) (nxX t x)).1 = true
          · rw [if_pos h1]
            obtain ⟨s, a, b, c, d, e, f, g, i', j⟩ := rd_ok F 5 o (i + 1) (nxX t x) (by omega) hn1 h1
            refine ⟨s ++ [(2, 33)], ?_, fun q hq => ?_, fun _ h => ?_, fun q => absurd q (by decide), ?_, f, ?_, i', fun _ => ?_⟩
            · show (rd t key F 5 o (i + 1) (nxX t x)).2.2.1 ++ [(2, 33)] = _
              rw [a, List.append_assoc]; rfl
            · rcases List.mem_append.1 hq with z | z
              · exact b q z
              · rw [List.mem_singleton.1 z]; exact okN_s (by omega)
            · rw [hgt_app _ _ _ _ (c (by decide) h), hgt_cons, if_neg (by decide), if_pos rfl, if_pos (by omega)]; rfl
            · rw [List.length_append]
              show s.length + 1 + x.1.1 ≤ (rd t key F 5 o (i + 1) (nxX t x)).2.1.1
              omega
            · rw [List.length_append]
              show (rd t key F 5 o (i + 1) (nxX t x)).2.2.2 ≤ x.2.2 + (s.length + 1)
              have g2 : (rd t key F 5 o (i + 1) (nxX t x)).2.2.2 ≤ x.2.2 + s.length := g
              omega
            · show x.1.1 < (rd t key F 5 o (i + 1) (nxX t x)).2.1.1
              omega
          · rw [if_neg h1] at h
            exact absurd h h1
        · rw [if_neg hb] at h ⊢
          by_cases hc : sgn t x.1 40 = true ∧ o < 8
          · rw [if_pos hc] at h ⊢
            obtain ⟨hn1, hn2⟩ := nxt x hx (by rw [(sgn_iff.1 hc.1).1]; decide)
            by_cases h1 : (rd t key F 0 (o + 1) i (nxX t x)).1 = true ∧ sgn t (rd t key F 0 (o + 1) i (nxX t x)).2.1 41 = true
            · rw [if_pos h1]
              obtain ⟨s, a, b, c, d, e, f, g, i', j⟩ := rd_ok F 0 (o + 1) i (nxX t x) (by omega) hn1 h1.1
              obtain ⟨hm1, hm2⟩ := nxt (rd t key F 0 (o + 1) i (nxX t x)).2 i' (by rw [(sgn_iff.1 h1.2).1]; decide)
              exact ⟨s, a, b, fun _ => c (by decide), fun q => absurd q (by decide), by show _ ≤ (nxX t (rd t key F 0 (o + 1) i (nxX t x)).2).1.1; omega, f, g, hm1, fun _ => by show _ < (nxX t (rd t key F 0 (o + 1) i (nxX t x)).2).1.1; have := j (by decide); omega⟩
            · rw [if_neg h1] at h
              cases h
          · rw [if_neg hc] at h ⊢
            by_cases hd : isNb x.1 = true
            · rw [if_pos hd]
              have hdn := isNb_iff.1 hd
              obtain ⟨hn1, hn2⟩ := nxt x hx (by rw [hdn.1]; decide)
              have hlt := numV_lt (t := t) (hx.2.2.2.2.2 hdn.1) (x.1.2.1 - x.1.1) (by have := hx.1; omega) hdn.2
              have hp : 10 ^ (x.1.2.1 - x.1.1) ≤ 10 ^ 4 := Nat.pow_le_pow_right (by decide) hdn.2
              refine ⟨[(0, numV t x.1.1 (x.1.2.1 - x.1.1))], rfl, fun q hq => ?_, fun _ h => rfl, fun q => absurd q (by decide), by show 1 + x.1.1 ≤ (nxX t x).1.1; omega, Nat.le_succ _, Nat.le_refl _, hn1, fun _ => hn2⟩
              rw [List.mem_singleton.1 hq]
              refine ⟨?_, fun q => absurd q (by show ¬ (0 : Nat) = 1; decide)⟩
              unfold okStep
              rw [decide_eq_true (show numV t x.1.1 (x.1.2.1 - x.1.1) < 10000 by omega)]
              rfl
            · rw [if_neg hd] at h ⊢
              by_cases he : isNm key t x.1 = true
              · rw [if_pos he]
                have hen := isNm_iff.1 he
                obtain ⟨hn1, hn2⟩ := nxt x hx (by rw [hen.1.1]; decide)
                refine ⟨[(1, lttr t x.1)], rfl, fun q hq => ?_, fun _ h => rfl, fun q => absurd q (by decide), by show 1 + x.1.1 ≤ (nxX t x).1.1; omega, Nat.le_succ _, Nat.le_refl _, hn1, fun _ => hn2⟩
                rw [List.mem_singleton.1 hq]
                refine ⟨?_, fun _ => hen.2⟩
                have h4 : lttr t x.1 = 116 ∨ lttr t x.1 = 104 ∨ lttr t x.1 = 112 ∨ lttr t x.1 = 102 := by
                  rcases hen.2 with z | z
                  · exact Or.inl z
                  · split at z <;> omega
                rcases h4 with e | e | e | e <;> rw [e] <;> rfl
              · rw [if_neg he] at h
                cases h
      · obtain ⟨k, rfl⟩ : ∃ k, m = k + 10 := ⟨m - 10, by omega⟩
        rw [rd_lp] at h ⊢
        by_cases hj : jnB t k x.1 = true
        · rw [if_pos hj] at h ⊢
          obtain ⟨hj1, hj2, hj3⟩ := jn_sg hj
          obtain ⟨hn1, hn2⟩ := nxt x hx (by rw [hj1]; decide)
          by_cases h1 : (rd t key F (k + 1) o i (nxX t x)).1 = true
          · rw [if_pos h1] at h ⊢
            obtain ⟨s, a, b, c, d, e, f, g, i', j⟩ := rd_ok F (k + 1) o i (nxX t x) (by omega) hn1 h1
            have g1 : rdG t key 10 x (ptX (rd t key F (k + 1) o i (nxX t x)).2 (2, lttr t x.1)) := by
              refine ⟨s ++ [(2, lttr t x.1)], ?_, fun q hq => ?_, fun q => absurd q (by decide), fun _ h hh => ?_, ?_, f, ?_, i', fun q => absurd q (by decide)⟩
              · show (rd t key F (k + 1) o i (nxX t x)).2.2.1 ++ [(2, lttr t x.1)] = _
                rw [a, List.append_assoc]; rfl
              · rcases List.mem_append.1 hq with z | z
                · exact b q z
                · rw [List.mem_singleton.1 z]; exact okN_s (by omega)
              · rw [hgt_app _ _ _ _ (c (by omega) h), hgt_cons, if_neg (by decide), if_neg (by omega), if_pos (by omega)]
                show some (h + 1 - 1) = some h
                rw [Nat.add_sub_cancel]
              · rw [List.length_append]
                show s.length + 1 + x.1.1 ≤ (rd t key F (k + 1) o i (nxX t x)).2.1.1
                omega
              · rw [List.length_append]
                show (rd t key F (k + 1) o i (nxX t x)).2.2.2 ≤ x.2.2 + (s.length + 1)
                have g2 : (rd t key F (k + 1) o i (nxX t x)).2.2.2 ≤ x.2.2 + s.length := g
                omega
            by_cases h3 : k = 2
            · rw [if_pos h3]
              obtain ⟨s, a, b, c, d, e, f, g, i', j⟩ := g1
              exact ⟨s, a, b, fun q => absurd q (by omega), fun _ => d (by decide), e, f, g, i', fun q => absurd q (by omega)⟩
            · rw [if_neg h3] at h ⊢
              have g2 := rd_ok F (k + 10) o i (ptX (rd t key F (k + 1) o i (nxX t x)).2 (2, lttr t x.1)) (by omega) i' h
              obtain ⟨s1, a1, b1, c1, d1, e1, f1, g1', i1, j1⟩ := g1
              obtain ⟨s2, a2, b2, c2, d2, e2, f2, g2', i2, j2⟩ := g2
              refine ⟨s1 ++ s2, by rw [a2, a1, List.append_assoc], fun q hq => ?_, fun q => absurd q (by omega), fun _ h hh => ?_, by rw [List.length_append]; omega, by omega, by rw [List.length_append]; omega, i2, fun q => absurd q (by omega)⟩
              · rcases List.mem_append.1 hq with z | z
                · exact b1 q z
                · exact b2 q z
              · rw [hgt_app _ _ _ _ (d1 (by decide) h hh)]
                exact d2 (by omega) h hh
          · rw [if_neg h1] at h
            exact absurd h h1
        · rw [if_neg hj] at h ⊢
          exact ⟨[], (List.append_nil _).symm, fun q hq => absurd hq (List.not_mem_nil), fun q => absurd q (by omega), fun _ h _ => rfl, by show 0 + x.1.1 ≤ x.1.1; omega, Nat.le_refl _, Nat.le_refl _, hx, fun q => absurd q (by omega)⟩
