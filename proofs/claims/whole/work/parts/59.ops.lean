/-! ===== calls as values: runs, readings, what moves what ===== -/
noncomputable def runR (V : Mc) : Nat → Mc × Int32
  | 0 => (V, nI 1)
  | n + 1 => if (runR V n).2 = nI 1 then (if ansC (runR V n).1 = 1 then (stpV (runR V n).1, nI 1) else ((runR V n).1, ansV (runR V n).1)) else runR V n
theorem runR_y {V : Mc} {n : Nat} (h : (runR V n).2 = nI 1) (h1 : ansC (runR V n).1 = 1) : runR V (n + 1) = (stpV (runR V n).1, nI 1) := by rw [runR, if_pos h, if_pos h1]
theorem runR_n {V : Mc} {n : Nat} (h : (runR V n).2 = nI 1) (h1 : ¬ ansC (runR V n).1 = 1) : runR V (n + 1) = ((runR V n).1, ansV (runR V n).1) := by rw [runR, if_pos h, if_neg h1]
theorem runR_k {V : Mc} {n : Nat} (h : ¬ (runR V n).2 = nI 1) : ∀ k, runR V (n + k) = runR V n
  | 0 => rfl
  | k + 1 => by
    have ih := runR_k h k
    show runR V (n + k + 1) = _
    rw [runR, ih, if_neg h]
theorem runR_f {V : Mc} {n m : Nat} (h : (runR V n).2 = nI 1) (h1 : ¬ ansC (runR V n).1 = 1) (hm : n < m) : (runR V m).2 = ansV (runR V n).1 := by
  obtain ⟨k, rfl⟩ : ∃ k, m = n + 1 + k := ⟨m - (n + 1), by omega⟩
  have e := runR_n h h1
  rw [runR_k (by rw [e]; exact fun z => h1 ((ansV_iff _).1 z)) k, e]
theorem runR_w {V : Mc} (hW : WF V) : ∀ n, nS V + n ≤ 20000 → (runR V n).2 = nI 1 → WF (runR V n).1 ∧ nS (runR V n).1 = nS V + n ∧ nP (runR V n).1 = nP V ∧ ∀ p f, f ≠ 4 → pP (runR V n).1 p f = pP V p f
  | 0, _, _ => ⟨hW, rfl, rfl, fun _ _ _ => rfl⟩
  | n + 1, hn, h => by
    by_cases h0 : (runR V n).2 = nI 1
    · have ih := runR_w hW n (by omega) h0
      by_cases h1 : ansC (runR V n).1 = 1
      · rw [runR_y h0 h1]
        have hs := stp_n (runR V n).1 (fun b => ansX (runR V n).1 (2 * b)) (fun b => ansX (runR V n).1 (2 * b + 1))
        exact ⟨WF_stepV ih.1 (by omega), hs.2.2.2.trans (by omega), hs.1.trans ih.2.2.1, fun p f hf => (stp_P hf).trans (ih.2.2.2 p f hf)⟩
      · rw [runR_n h0 h1] at h
        exact absurd ((ansV_iff _).1 h) h1
    · rw [runR_k h0 1] at h
      exact absurd h h0
theorem runR_ws {V : Mc} (hW : WS V) {n : Nat} (hn : nS V + n ≤ 9999) (h : (runR V n).2 = nI 1) : WS (runR V n).1 := by
  obtain ⟨h1, h2, h3, h4⟩ := runR_w hW.1 n (by omega) h
  exact ⟨h1, by omega, fun p hp => by rw [h4 p 2 (by decide), h4 p 3 (by decide)]; exact hW.2.2 p (by omega)⟩
noncomputable def op_run (S : AS) (x : Int32) : AS × Int32 := if 1 ≤ x.toInt ∧ x.toInt ≤ 60 then (if nS (sM S) + ix x ≤ 9999 then (if (runR (sM S) (ix x)).2 = nI 1 then (setM S (runR (sM S) (ix x)).1, nI (nS (runR (sM S) (ix x)).1)) else (S, (runR (sM S) (ix x)).2)) else (S, -1000000003)) else (S, -1000000001)
def orN (x : Int32) : Int32 := if x.toInt < 0 then -1000000005 else x
def op_why (S : AS) (k o : Int32) : AS × Int32 := (S, if inR k 2 ∧ inR o 12 then orN (oI (lastT (sM S) (ix k) (ix o) (nX (sM S)))) else -1000000001)
def op_textTold (S : AS) (t w : Int32) : AS × Int32 := (S, if inR t (nX (sM S)) ∧ inR w 3 then (if ix w = 0 then nI (tX (sM S) (ix t)).1 else if ix w = 1 then nI (tX (sM S) (ix t)).2.1 else nI (tX (sM S) (ix t)).2.2.1) else -1000000001)
noncomputable def readV (V : Mc) (b : Nat) : Int32 := match lastT V 1 b (nX V) with
  | some j => if ansC V = 1 then evT (nmC (nI (nS V)) (nI (ansX V (2 * b))) (nI (ansX V (2 * b + 1)))) (tX V j).2.2.2 else ansV V
  | none => -1000000005
theorem readV_n {V : Mc} {b : Nat} (h : lastT V 1 b (nX V) = none) : readV V b = -1000000005 := by unfold readV; rw [h]
theorem readV_s {V : Mc} {b j : Nat} (h : lastT V 1 b (nX V) = some j) : readV V b = if ansC V = 1 then evT (nmC (nI (nS V)) (nI (ansX V (2 * b))) (nI (ansX V (2 * b + 1)))) (tX V j).2.2.2 else ansV V := by unfold readV; rw [h]
noncomputable def op_read (S : AS) (b : Int32) : AS × Int32 := (S, if inR b (nB (sM S)) then readV (sM S) (ix b) else -1000000001)
def movM (V : Mc) (g : Nat) : Mc := mkH V (fun p => if p = g then 1 else 0)
theorem WF_movM {V : Mc} (hW : WF V) (g : Nat) : WF (movM V g) := WF_mkH hW (fun p _ => by split <;> decide)
noncomputable def op_moves (S : AS) (g b w : Int32) : AS × Int32 := (S, if (inR g (nP (sM S)) ∧ pP (sM S) (ix g) 0 = 3) ∧ inR b (nB (sM S)) ∧ inR w 2 then (if ansC (movM (sM S) (ix g)) = 1 then nI (ansX (movM (sM S) (ix g)) (2 * ix b + ix w)) else ansV (movM (sM S) (ix g))) else -1000000001)
def ovr (V : Mc) (p : Nat) : Mc := setP V p (fun f => if f = 2 then pP V p 2 + 1 else pP V p f)
theorem WF_ovr {V : Mc} (hW : WS V) {p : Nat} (hp : p < nP V) : WF (ovr V p) := by
  obtain ⟨⟨h1, h2, h3, h4⟩, h5, h6⟩ := hW
  refine ⟨h1, fun q hq => ?_, h3, h4⟩
  unfold ovr
  simp only [setP_pP]
  have := h2 q hq
  have := h2 p hp
  have := h6 p hp
  by_cases e : q = p
  · simp only [if_pos e]
    rw [if_neg (by decide), if_neg (by decide), if_pos trivial, if_neg (by decide), if_neg (by decide)]
    omega
  · simp only [if_neg e]; omega
noncomputable def dfB (V W : Mc) : Nat → Nat
  | 0 => 0
  | n + 1 => if ansX V (2 * n) = ansX W (2 * n) ∧ ansX V (2 * n + 1) = ansX W (2 * n + 1) then dfB V W n else dfB V W n ||| 2 ^ n
theorem dfB_lt (V W : Mc) : ∀ n, n ≤ 12 → dfB V W n < 4096
  | 0, _ => by show 0 < 4096; decide
  | n + 1, h => by
    have ih := dfB_lt V W n (by omega)
    unfold dfB
    split
    · exact ih
    · exact or_lt ih (pow12 (by omega))
noncomputable def sgnV (V : Mc) (p : Nat) : Int32 := if ansC V = 1 then (if ansC (ovr V p) = 1 then nI (dfB V (ovr V p) (nB V)) else ansV (ovr V p)) else ansV V
noncomputable def op_signs (S : AS) (p : Int32) : AS × Int32 := (S, if inR p (nP (sM S)) then sgnV (sM S) (ix p) else -1000000001)
noncomputable def op_apart (S : AS) (a b : Int32) : AS × Int32 := (S, if inR a (nP (sM S)) ∧ inR b (nP (sM S)) ∧ ¬ a = b then (if (sgnV (sM S) (ix a)).toInt < 0 then sgnV (sM S) (ix a) else if (sgnV (sM S) (ix b)).toInt < 0 then sgnV (sM S) (ix b) else bI (¬ sgnV (sM S) (ix a) = sgnV (sM S) (ix b))) else -1000000001)
def duF (g : Nat → Nat) : Nat → Nat := fun f => if g 0 = 4 then (if f = 2 then g 3 else if f = 3 then g 2 else g f) else (if f = 1 then 1 - g 1 else g f)
def duV (V : Mc) (n : Nat) : Mc := (nP V, nB V, nX V, nS V, (fun p => if p < n then duF (pP V p) else pP V p), V.2.2.2.2.2)
theorem duV_P (V : Mc) (n p f : Nat) : pP (duV V n) p f = if p < n then duF (pP V p) f else pP V p f := by
  show (if p < n then duF (pP V p) else pP V p) f = _
  split <;> rfl
theorem WS_duV {V : Mc} (h : WS V) (n : Nat) : WS (duV V n) := by
  obtain ⟨⟨h1, h2, h3, h4⟩, h5, h6⟩ := h
  have key : ∀ p, p < nP V → pP (duV V n) p 0 < 6 ∧ pP (duV V n) p 1 < 2 ∧ (1 ≤ pP (duV V n) p 2 ∧ pP (duV V n) p 2 ≤ 9) ∧ (1 ≤ pP (duV V n) p 3 ∧ pP (duV V n) p 3 ≤ 9) ∧ pP (duV V n) p 4 < 1000003 := fun p hp => by
    have a := h2 p hp
    have b := h6 p hp
    simp only [duV_P]
    by_cases e : p < n
    · simp only [if_pos e]
      unfold duF
      by_cases e4 : pP V p 0 = 4
      · simp only [if_pos e4]
        simp
        omega
      · simp only [if_neg e4]
        simp
        omega
    · simp only [if_neg e]
      omega
  exact ⟨⟨h1, fun p hp => by have := key p hp; omega, h3, h4⟩, h5, fun p hp => by have := key p hp; omega⟩
def op_dual (S : AS) : AS × Int32 := (setM S (duV (sM S) (nP (sM S))), nI (cnt (fun p => !(pP (sM S) p 0 == 4)) (nP (sM S))))
def porV (V : Mc) (v : ShV) : Nat → Mc × Nat
  | 0 => (V, 0)
  | n + 1 => if pP V n 0 = 1 ∧ (porV V v n).2 < v.2.1 then (setH (porV V v n).1 n (wof (v.2.2 (porV V v n).2).toInt), (porV V v n).2 + 1) else porV V v n
theorem porV_n {V : Mc} {v : ShV} : ∀ n, nP (porV V v n).1 = nP V ∧ nB (porV V v n).1 = nB V ∧ nX (porV V v n).1 = nX V ∧ nS (porV V v n).1 = nS V ∧ ∀ p f, f ≠ 4 → pP (porV V v n).1 p f = pP V p f
  | 0 => ⟨rfl, rfl, rfl, rfl, fun _ _ _ => rfl⟩
  | n + 1 => by
    have ih := porV_n (V := V) (v := v) n
    unfold porV
    split
    · exact ⟨ih.1, ih.2.1, ih.2.2.1, ih.2.2.2.1, fun p f hf => (if_neg (fun z => hf z.2)).trans (ih.2.2.2.2 p f hf)⟩
    · exact ih
theorem WF_porV {V : Mc} (hW : WF V) {v : ShV} : ∀ n, WF (porV V v n).1
  | 0 => hW
  | n + 1 => by
    have ih := WF_porV hW (v := v) n
    unfold porV
    split
    · exact WF_setH ih (wof_lt _)
    · exact ih
theorem WS_porV {V : Mc} (hW : WS V) {v : ShV} (n : Nat) : WS (porV V v n).1 := by
  have h := porV_n (V := V) (v := v) n
  exact ⟨WF_porV hW.1 n, by rw [h.2.2.2.1]; exact hW.2.1, fun p hp => by rw [h.2.2.2.2 p 2 (by decide), h.2.2.2.2 p 3 (by decide)]; exact hW.2.2 p (by rw [← h.1]; exact hp)⟩
theorem porV_le {V : Mc} {v : ShV} : ∀ n, (porV V v n).2 ≤ n ∧ (porV V v n).2 ≤ v.2.1
  | 0 => ⟨Nat.le_refl _, Nat.zero_le _⟩
  | n + 1 => by
    have ih := porV_le (V := V) (v := v) n
    unfold porV
    split
    · rename_i h; exact ⟨by show _ + 1 ≤ _; omega, by show _ + 1 ≤ _; omega⟩
    · omega
theorem porV_full {V : Mc} {v : ShV} {n : Nat} (h : v.2.1 ≤ (porV V v n).2) : ∀ k, porV V v (n + k) = porV V v n
  | 0 => rfl
  | k + 1 => by
    have ih := porV_full h k
    show porV V v (n + k + 1) = _
    rw [porV, ih, if_neg (by omega)]
def op_pour (S : AS) (s : Int32) : AS × Int32 := if inR s 4 then (if (sH S (ix s)).1 = -1 then (S, -1000000011) else (setM S (porV (sM S) (sH S (ix s)) (nP (sM S))).1, nI (porV (sM S) (sH S (ix s)) (nP (sM S))).2)) else (S, -1000000001)
def cpS (v w : ShV) (p a m : Nat) : ShV := (w.1, w.2.1, fun j => if a ≤ j ∧ j < a + m then v.2.2 (p + (j - a)) else w.2.2 j)
def op_copy (S : AS) (f p t a m : Int32) : AS × Int32 := if inR f 4 ∧ inR t 4 then (if (sH S (ix f)).1 = -1 ∨ (sH S (ix t)).1 = -1 then (S, -1000000011) else if ¬ (sH S (ix f)).1 = (sH S (ix t)).1 then (S, -1000000012) else if inRow p m (sH S (ix f)).2.1 ∧ inRow a m (sH S (ix t)).2.1 then (setS S (ix t) (cpS (sH S (ix f)) (sH S (ix t)) (ix p) (ix a) (ix m)), m) else (S, -1000000013)) else (S, -1000000001)
def setL (S : AS) (s : Nat) (v : SlV) : AS := (sM S, sG S, sK S, sT S, sH S, (fun i => if i = s then v else sL2 S i), sW S)
def op_lay (S : AS) (s th k : Int32) : AS × Int32 := if inR s 5 ∧ inR th 4 ∧ (ix th = 1 → inR k (nP (sM S))) ∧ (ix th = 2 → inR k 4) then (if ix th = 2 ∧ (sH S (ix k)).1 = -1 then (S, -1000000011) else (setL S (ix s) (ix th, k, pP (sM S) (ix k), sH S (ix k)), nI (sL2 S (ix s)).1)) else (S, -1000000001)
noncomputable def itV (V : Mc) : Nat → Mc
  | 0 => V
  | n + 1 => stpV (itV V n)
noncomputable def rowV (V : Mc) (j : Nat) : Int32 := if j % 2 = 0 then nI (sumS (itV V (j / 2 + 1)) (nP V)) else nI (ansX (itV V (j / 2 + 1)) 0)
/-- how many of the first c numbers are right -/
noncomputable def rgt (V : Mc) (w : Nat → Int32) (c : Nat) : Nat := fst' (fun j => !(decide (w j = rowV V j))) c 0
noncomputable def chkV (V : Mc) (c : Nat) (w : Nat → Int32) (n : Nat) : Int32 := @ite _ (∀ i, i ≤ n → ansC (itV V i) = 1) (Classical.propDecidable _) (if rgt V w (min c (2 * n)) = 2 * n ∧ c = 2 * n then nI 0 else nI (1 + rgt V w (min c (2 * n)))) (-1000000002)
noncomputable def op_check (S : AS) (x : Int32) : AS × Int32 := ((sM S, sG S, sK S, sT S, sH S, sL2 S, (0, (sW S).2)), if 1 ≤ x.toInt ∧ x.toInt ≤ 30 then (if sK S = 1 then chkV (sG S) (sW S).1 (sW S).2 (ix x) else -1000000002) else -1000000001)
