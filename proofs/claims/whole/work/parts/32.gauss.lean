/-! ===== rows over the prime: what the steps of an elimination keep ===== -/
theorem dt_lin (A B x : Nat → Nat) (t : Nat) : ∀ n, dt (fun c => (A c + t * B c) % 1000003) x n % 1000003 = (dt A x n + t * dt B x n) % 1000003
  | 0 => by
    show 0 % 1000003 = (0 + t * 0) % 1000003
    rw [Nat.mul_zero]
  | n + 1 => by
    show (dt (fun c => (A c + t * B c) % 1000003) x n + (A n + t * B n) % 1000003 * x n) % 1000003 = (dt A x n + A n * x n + t * (dt B x n + B n * x n)) % 1000003
    rw [Nat.add_mod, dt_lin A B x t n, Nat.mod_mul_mod, ← Nat.add_mod, Nat.add_mul, Nat.mul_add t, Nat.mul_assoc t]
    generalize t * dt B x n = e1
    generalize t * (B n * x n) = e2
    generalize A n * x n = e3
    omega
theorem eqn_cg {w : Nat} {a b x : Nat → Nat} (h : ∀ c, c ≤ w → a c = b c) : eqn w a x ↔ eqn w b x := by
  unfold eqn
  rw [dt_cg w (fun c hc => h c (by omega)), h w (Nat.le_refl _)]
theorem mul_cg {t a b : Nat} (h : a % 1000003 = b % 1000003) : t * a % 1000003 = t * b % 1000003 := by
  rw [Nat.mul_mod, h, ← Nat.mul_mod]
theorem lin_eqn {w t : Nat} {A B x : Nat → Nat} (hB : eqn w B x) (hA : A w < 1000003) : eqn w (fun c => (A c + t * B c) % 1000003) x ↔ eqn w A x := by
  unfold eqn at *
  rw [dt_lin]
  have h1 : t * dt B x w % 1000003 = t * B w % 1000003 := mul_cg (by omega)
  show (dt A x w + t * dt B x w) % 1000003 = (A w + t * B w) % 1000003 ↔ _
  generalize t * dt B x w = e1 at *
  generalize t * B w = e2 at *
  omega
theorem mul_can {u v a b : Nat} (huv : v * u % 1000003 = 1) (h : u * a % 1000003 = u * b % 1000003) : a % 1000003 = b % 1000003 := by
  have h1 : v * (u * a) % 1000003 = v * (u * b) % 1000003 := mul_cg h
  rw [← Nat.mul_assoc, ← Nat.mul_assoc, Nat.mul_mod, huv, Nat.mul_mod (v * u) b, huv] at h1
  omega
theorem scl_eqn {w u v : Nat} {B x : Nat → Nat} (huv : v * u % 1000003 = 1) (hB : B w < 1000003) : eqn w (fun c => B c * u % 1000003) x ↔ eqn w B x := by
  have e : (fun c => B c * u % 1000003) = (fun c => ((fun _ => 0) c + u * B c) % 1000003) := by
    funext c
    show B c * u % 1000003 = (0 + u * B c) % 1000003
    rw [Nat.zero_add, Nat.mul_comm]
  rw [e]
  unfold eqn
  rw [dt_lin, dt_z w (fun c _ => Nat.zero_mul _), Nat.zero_add]
  show u * dt B x w % 1000003 = (0 + u * B w) % 1000003 ↔ _
  rw [Nat.zero_add]
  constructor
  · intro h
    have := mul_can huv h
    omega
  · intro h
    exact mul_cg (by omega)
def swp (A : Nat → Nat → Nat) (k f : Nat) : Nat → Nat → Nat := fun r => if r = k then A f else if r = f then A k else A r
def scl (A : Nat → Nat → Nat) (k i u : Nat) : Nat → Nat → Nat := fun r => if r = k then (fun c => if i ≤ c then A k c * u % 1000003 else A k c) else A r
def clr (A : Nat → Nat → Nat) (k i : Nat) : Nat → Nat → Nat := fun r => if r = k ∨ A r i = 0 then A r else fun c => if i ≤ c then (A r c + (1000003 - A r i) * A k c) % 1000003 else A r c
def Sol (n w : Nat) (A : Nat → Nat → Nat) (x : Nat → Nat) : Prop := ∀ r, r < n → eqn w (A r) x
def Bd (n w : Nat) (A : Nat → Nat → Nat) : Prop := ∀ r c, r < n → c ≤ w → A r c < 1000003
theorem Sol_swp {n w k f : Nat} {A : Nat → Nat → Nat} {x : Nat → Nat} (hk : k < n) (hf : f < n) : Sol n w (swp A k f) x ↔ Sol n w A x := by
  constructor
  · intro h r hr
    by_cases e1 : r = f
    · have := h k hk
      unfold swp at this
      rw [if_pos rfl] at this
      rw [e1]; exact this
    · by_cases e2 : r = k
      · have := h f hf
        unfold swp at this
        by_cases e3 : f = k
        · omega
        · rw [if_neg e3, if_pos rfl] at this
          rw [e2]; exact this
      · have := h r hr
        unfold swp at this
        rw [if_neg e2, if_neg e1] at this
        exact this
  · intro h r hr
    unfold swp
    split
    · exact h f hf
    · split
      · exact h k hk
      · exact h r hr
theorem Sol_scl {n w k i u v : Nat} {A : Nat → Nat → Nat} {x : Nat → Nat} (hk : k < n) (hB : Bd n w A) (hz : ∀ c, c < i → A k c = 0) (huv : v * u % 1000003 = 1) : Sol n w (scl A k i u) x ↔ Sol n w A x := by
  have e : eqn w (scl A k i u k) x ↔ eqn w (A k) x := by
    refine (eqn_cg (b := fun c => A k c * u % 1000003) (fun c hc => ?_)).trans (scl_eqn huv (hB k w hk (Nat.le_refl _)))
    unfold scl
    rw [if_pos rfl]
    by_cases h1 : i ≤ c
    · rw [if_pos h1]
    · rw [if_neg h1, hz c (by omega)]
      simp
  constructor
  · intro h r hr
    by_cases e1 : r = k
    · rw [e1]; exact e.1 (h k hk)
    · have := h r hr
      unfold scl at this
      rw [if_neg e1] at this
      exact this
  · intro h r hr
    by_cases e1 : r = k
    · rw [e1]; exact e.2 (h k hk)
    · unfold scl
      rw [if_neg e1]
      exact h r hr
theorem Sol_clr {n w k i : Nat} {A : Nat → Nat → Nat} {x : Nat → Nat} (hk : k < n) (hB : Bd n w A) (hz : ∀ c, c < i → A k c = 0) : Sol n w (clr A k i) x ↔ Sol n w A x := by
  have e0 : clr A k i k = A k := by unfold clr; rw [if_pos (Or.inl rfl)]
  have e : ∀ r, r < n → eqn w (A k) x → (eqn w (clr A k i r) x ↔ eqn w (A r) x) := by
    intro r hr hA
    by_cases h : r = k ∨ A r i = 0
    · unfold clr
      rw [if_pos h]
    · refine (eqn_cg (b := fun c => (A r c + (1000003 - A r i) * A k c) % 1000003) (fun c hc => ?_)).trans (lin_eqn hA (hB r w hr (Nat.le_refl _)))
      unfold clr
      rw [if_neg h]
      by_cases h1 : i ≤ c
      · rw [if_pos h1]
      · rw [if_neg h1, hz c (by omega), Nat.mul_zero, Nat.add_zero, Nat.mod_eq_of_lt (hB r c hr hc)]
  constructor
  · intro h
    have hA : eqn w (A k) x := by have := h k hk; rw [e0] at this; exact this
    exact fun r hr => (e r hr hA).1 (h r hr)
  · intro h r hr
    exact (e r hr (h k hk)).2 (h r hr)
def GI (A : Nat → Nat → Nat) (n w i k : Nat) (pv : Nat → Nat) : Prop :=
  (k ≤ i ∧ k ≤ n ∧ i ≤ w) ∧ (∀ r, r < k → pv r < i) ∧ (∀ r s, r < s → s < k → pv r < pv s) ∧ (∀ r s, r < k → s < n → A s (pv r) = if s = r then 1 else 0) ∧ (∀ r c, k ≤ r → r < n → c < i → A r c = 0)
theorem GI_0 {A : Nat → Nat → Nat} {n w : Nat} (pv : Nat → Nat) : GI A n w 0 0 pv :=
  ⟨⟨Nat.le_refl _, Nat.zero_le _, Nat.zero_le _⟩, fun _ h => absurd h (Nat.not_lt_zero _), fun _ _ _ h => absurd h (Nat.not_lt_zero _), fun _ _ h => absurd h (Nat.not_lt_zero _), fun _ _ _ _ h => absurd h (Nat.not_lt_zero _)⟩
theorem GI_skip {A : Nat → Nat → Nat} {n w i k : Nat} {pv : Nat → Nat} (h : GI A n w i k pv) (hi : i < w) (hz : ∀ r, k ≤ r → r < n → A r i = 0) : GI A n w (i + 1) k pv := by
  obtain ⟨h1, h2, h3, h4, h5⟩ := h
  refine ⟨by omega, fun r hr => by have := h2 r hr; omega, h3, h4, fun r c h6 h7 h8 => ?_⟩
  by_cases e : c = i
  · rw [e]; exact hz r h6 h7
  · exact h5 r c h6 h7 (by omega)
theorem GI_step {A : Nat → Nat → Nat} {n w i k f : Nat} {pv : Nat → Nat} (h : GI A n w i k pv) (hi : i < w) (hB : Bd n w A) (hk : k ≤ f) (hf : f < n) (hne : A f i ≠ 0) : GI (clr (scl (swp A k f) k i (ivP (A f i))) k i) n w (i + 1) (k + 1) (fun r => if r = k then i else pv r) := by
  obtain ⟨h1, h2, h3, h4, h5⟩ := h
  have hkn : k < n := by omega
  have hinv := ivP_mul (w := A f i) (by omega) (hB f i hf (by omega))
  generalize ivP (A f i) = u at *
  -- row k after the two first steps
  have ek : ∀ c, scl (swp A k f) k i u k c = if i ≤ c then A f c * u % 1000003 else A f c := by
    intro c
    unfold scl
    rw [if_pos rfl]
    unfold swp
    rw [if_pos rfl]
  have er : ∀ r, ¬ r = k → scl (swp A k f) k i u r = swp A k f r := fun r hr => by unfold scl; rw [if_neg hr]
  have e1 : scl (swp A k f) k i u k i = 1 := by rw [ek, if_pos (Nat.le_refl _), hinv]
  have elo : ∀ c, c < i → scl (swp A k f) k i u k c = 0 := fun c hc => by rw [ek, if_neg (by omega)]; exact h5 f c hk hf hc
  -- all rows at a column below i
  have sw : ∀ s c, s < n → ¬ s = k → c < i → (k ≤ s → swp A k f s c = 0) ∧ (s < k → swp A k f s c = A s c) := by
    intro s c hs hsk hc
    refine ⟨fun hks => ?_, fun hks => ?_⟩
    · unfold swp
      rw [if_neg hsk]
      split
      · exact h5 k c (Nat.le_refl _) hkn hc
      · exact h5 s c hks hs hc
    · unfold swp
      rw [if_neg hsk, if_neg (by omega)]
  have lo : ∀ s c, s < n → c < i → clr (scl (swp A k f) k i u) k i s c = if s < k then A s c else 0 := by
    intro s c hs hc
    by_cases hsk : s = k
    · unfold clr
      rw [if_pos (Or.inl hsk), hsk, elo c hc, if_neg (Nat.lt_irrefl _)]
    · have e2 : clr (scl (swp A k f) k i u) k i s c = swp A k f s c := by
        unfold clr
        split
        · rw [er s hsk]
        · dsimp only
          rw [if_neg (show ¬ i ≤ c by omega), er s hsk]
      rw [e2]
      by_cases hlt : s < k
      · rw [if_pos hlt]; exact (sw s c hs hsk hc).2 hlt
      · rw [if_neg hlt]; exact (sw s c hs hsk hc).1 (by omega)
  have at_i : ∀ s, s < n → clr (scl (swp A k f) k i u) k i s i = if s = k then 1 else 0 := by
    intro s hs
    by_cases hsk : s = k
    · rw [if_pos hsk]
      unfold clr
      rw [if_pos (Or.inl hsk), hsk, e1]
    · rw [if_neg hsk]
      unfold clr
      by_cases hz : scl (swp A k f) k i u s i = 0
      · rw [if_pos (Or.inr hz), hz]
      · rw [if_neg (fun z => z.elim hsk hz), if_pos (Nat.le_refl _), e1]
        have hb : scl (swp A k f) k i u s i < 1000003 := by
          rw [er s hsk]
          unfold swp
          rw [if_neg hsk]
          split
          · exact hB k i hkn (by omega)
          · exact hB s i hs (by omega)
        rw [Nat.mul_one, show scl (swp A k f) k i u s i + (1000003 - scl (swp A k f) k i u s i) = 1000003 by omega]
  refine ⟨by omega, fun r hr => ?_, fun r s hrs hs => ?_, fun r s hr hs => ?_, fun r c h6 h7 h8 => ?_⟩
  · dsimp only
    split
    · omega
    · have := h2 r (by omega); omega
  · dsimp only
    rw [if_neg (show ¬ r = k by omega)]
    split
    · exact h2 r (by omega)
    · exact h3 r s hrs (by omega)
  · dsimp only
    by_cases e : r = k
    · rw [if_pos e, at_i s hs, e]
    · rw [if_neg e, lo s _ hs (h2 r (by omega))]
      by_cases hlt : s < k
      · rw [if_pos hlt]; exact h4 r s (by omega) hs
      · rw [if_neg hlt, if_neg (by omega)]
  · by_cases e : c = i
    · rw [e, at_i r h7, if_neg (by omega)]
    · rw [lo r c h7 (by omega), if_neg (by omega)]
/-! ===== what the end of an elimination says ===== -/
theorem G_none {A : Nat → Nat → Nat} {n w i k r : Nat} {pv x : Nat → Nat} (h : GI A n w i k pv) (hi : i = w ∨ k = n) (hk : k ≤ r) (hr : r < n) (hne : A r w ≠ 0) : ¬ Sol n w A x := by
  intro hs
  have hiw : i = w := by omega
  have h1 := hs r hr
  unfold eqn at h1
  rw [dt_z w (fun c hc => by rw [h.2.2.2.2 r c hk hr (by omega), Nat.zero_mul])] at h1
  exact hne h1.symm
theorem pv_ge {pv : Nat → Nat} {k : Nat} (h : ∀ r s, r < s → s < k → pv r < pv s) : ∀ r, r < k → r ≤ pv r
  | 0, _ => Nat.zero_le _
  | r + 1, hr => by
    have h1 := pv_ge h r (by omega)
    have h2 := h r (r + 1) (by omega) hr
    omega
theorem pv_gap {pv : Nat → Nat} {k : Nat} (h : ∀ r s, r < s → s < k → pv r < pv s) (r : Nat) : ∀ m, r + m < k → pv r + m ≤ pv (r + m)
  | 0, _ => Nat.le_refl _
  | m + 1, hr => by
    have h1 := pv_gap h r m (by omega)
    have h2 := h (r + m) (r + m + 1) (by omega) hr
    show pv r + (m + 1) ≤ pv (r + m + 1)
    omega
/-- a column that no row owns -/
theorem pv_free {pv : Nat → Nat} {k : Nat} (h : ∀ r s, r < s → s < k → pv r < pv s) : ∃ c, c ≤ k ∧ ∀ r, r < k → pv r ≠ c := by
  by_cases hall : ∀ r, r < k → pv r = r
  · exact ⟨k, Nat.le_refl _, fun r hr e => by rw [hall r hr] at e; omega⟩
  · -- the least row that is off
    have hex : ∃ r, r < k ∧ pv r ≠ r := by
      apply Classical.byContradiction
      intro hc
      exact hall (fun r hr => Classical.byContradiction (fun hn => hc ⟨r, hr, hn⟩))
    have key : ∀ m, (∃ r, r < m ∧ r < k ∧ pv r ≠ r) → ∃ r, r < k ∧ pv r ≠ r ∧ ∀ s, s < r → pv s = s := by
      intro m
      induction m with
      | zero => exact fun ⟨r, hr, _⟩ => absurd hr (Nat.not_lt_zero r)
      | succ m ih =>
        intro ⟨r, hr, hrk, hne⟩
        by_cases hb : ∃ r, r < m ∧ r < k ∧ pv r ≠ r
        · exact ih hb
        · refine ⟨r, hrk, hne, fun s hs => Classical.byContradiction (fun hn => hb ⟨s, by omega, by omega, hn⟩)⟩
    obtain ⟨r0, hr0, hn0⟩ := hex
    obtain ⟨r, hr, hne, hlt⟩ := key k ⟨r0, hr0, hr0, hn0⟩
    have hge := pv_ge h r hr
    refine ⟨r, by omega, fun s hs e => ?_⟩
    by_cases h1 : s < r
    · rw [hlt s h1] at e; omega
    · by_cases h2 : s = r
      · rw [h2] at e; exact hne e
      · have := h r s (by omega) hs
        omega
noncomputable def gX (A : Nat → Nat → Nat) (w k c0 t : Nat) (pv : Nat → Nat) : Nat → Nat := fun c => if c = c0 then t else @dite _ (∃ r, r < k ∧ pv r = c) (Classical.propDecidable _) (fun h => (A (Classical.choose h) w + (1000003 - A (Classical.choose h) c0) * t) % 1000003) (fun _ => 0)
theorem gX_pv {A : Nat → Nat → Nat} {w k c0 t r : Nat} {pv : Nat → Nat} (hm : ∀ r s, r < s → s < k → pv r < pv s) (hf : ∀ r, r < k → pv r ≠ c0) (hr : r < k) : gX A w k c0 t pv (pv r) = (A r w + (1000003 - A r c0) * t) % 1000003 := by
  unfold gX
  rw [if_neg (hf r hr)]
  have hex : ∃ r', r' < k ∧ pv r' = pv r := ⟨r, hr, rfl⟩
  rw [dif_pos hex]
  have hc := Classical.choose_spec hex
  have e : Classical.choose hex = r := by
    generalize Classical.choose hex = q at hc
    by_cases h1 : q < r
    · have := hm q r h1 hr; omega
    · by_cases h2 : r < q
      · have := hm r q h2 hc.1; omega
      · omega
  rw [e]
theorem gX_lt {A : Nat → Nat → Nat} {w k c0 t : Nat} {pv : Nat → Nat} (ht : t < 1000003) (c : Nat) : gX A w k c0 t pv c < 1000003 := by
  unfold gX
  split
  · exact ht
  · split
    · exact Nat.mod_lt _ (by decide)
    · decide
theorem gX_sol {A : Nat → Nat → Nat} {n w i k c0 t : Nat} {pv : Nat → Nat} (h : GI A n w i k pv) (hi : i = w ∨ k = n) (hB : Bd n w A) (hz : ∀ r, k ≤ r → r < n → A r w = 0) (hc0 : c0 < w) (hf : ∀ r, r < k → pv r ≠ c0) : Sol n w A (gX A w k c0 t pv) := by
  intro r hr
  obtain ⟨h1, h2, h3, h4, h5⟩ := h
  unfold eqn
  by_cases hrk : r < k
  · have hpw : pv r < w := by have := h2 r hrk; omega
    rw [dt_2 (a := c0) (b := pv r) (fun e => hf r hrk e.symm) w hc0 hpw]
    · rw [gX_pv h3 hf hrk, h4 r r hrk hr, if_pos rfl, Nat.one_mul]
      have e : gX A w k c0 t pv c0 = t := by unfold gX; rw [if_pos rfl]
      rw [e, Nat.add_mod_mod]
      have hb := hB r c0 hr (by omega)
      have e2 : A r c0 * t + (A r w + (1000003 - A r c0) * t) = A r w + 1000003 * t := by
        have e3 : A r c0 * t + (1000003 - A r c0) * t = 1000003 * t := by rw [← Nat.add_mul, show A r c0 + (1000003 - A r c0) = 1000003 by omega]
        omega
      rw [e2, Nat.add_mul_mod_self_left, Nat.mod_eq_of_lt (hB r w hr (Nat.le_refl _))]
    · intro c hc hc1 hc2
      by_cases hex : ∃ q, q < k ∧ pv q = c
      · obtain ⟨q, hq, e⟩ := hex
        rw [← e, h4 q r hq hr, if_neg (fun z => hc2 (by rw [← e, ← z])), Nat.zero_mul]
      · have e : gX A w k c0 t pv c = 0 := by
          unfold gX
          rw [if_neg hc1, dif_neg hex]
        rw [e, Nat.mul_zero]
  · have hiw : i = w := by omega
    rw [hz r (by omega) hr, dt_z w (fun c hc => by rw [h5 r c (by omega) hr (by omega), Nat.zero_mul])]
theorem G_many {A : Nat → Nat → Nat} {n w i k : Nat} {pv : Nat → Nat} (h : GI A n w i k pv) (hi : i = w ∨ k = n) (hB : Bd n w A) (hz : ∀ r, k ≤ r → r < n → A r w = 0) (hk : k < w) : ∃ x y, xb w x ∧ xb w y ∧ Sol n w A x ∧ Sol n w A y ∧ ∃ c, c < w ∧ x c ≠ y c := by
  obtain ⟨c0, h1, h2⟩ := pv_free h.2.2.1
  refine ⟨gX A w k c0 0 pv, gX A w k c0 1 pv, fun c _ => gX_lt (by decide) c, fun c _ => gX_lt (by decide) c, gX_sol h hi hB hz (by omega) h2, gX_sol h hi hB hz (by omega) h2, c0, by omega, ?_⟩
  unfold gX
  rw [if_pos rfl, if_pos rfl]
  decide
theorem G_id {A : Nat → Nat → Nat} {n w i k : Nat} {pv : Nat → Nat} (h : GI A n w i k pv) (hk : k = w) {r : Nat} (hr : r < w) : pv r = r := by
  obtain ⟨h1, h2, h3, h4, h5⟩ := h
  have e1 := pv_ge h3 r (by omega)
  have e2 := pv_gap h3 r (k - 1 - r) (by omega)
  have e3 := h2 (r + (k - 1 - r)) (by omega)
  omega
theorem G_one {A : Nat → Nat → Nat} {n w i k : Nat} {pv x : Nat → Nat} (h : GI A n w i k pv) (hk : k = w) (hx : xb w x) (hz : ∀ r, k ≤ r → r < n → A r w = 0) : Sol n w A x ↔ ∀ c, c < w → x c = A c w := by
  have row : ∀ r, r < w → (eqn w (A r) x ↔ x r = A r w) := by
    intro r hr
    have hid := G_id h hk hr
    have h4 := h.2.2.2.1
    unfold eqn
    rw [dt_1 (a := r) w hr]
    · have e := h4 r r (by omega) (by have := h.1; omega)
      rw [hid, if_pos rfl] at e
      rw [e, Nat.one_mul, Nat.mod_eq_of_lt (hx r hr)]
    · intro c hc hcr
      have e := h4 c r (by omega) (by have := h.1; omega)
      rw [G_id h hk hc, if_neg (by omega)] at e
      rw [e, Nat.zero_mul]
  constructor
  · intro hs c hc
    exact (row c hc).1 (hs c (by have := h.1; omega))
  · intro hh r hr
    by_cases hrw : r < w
    · exact (row r hrw).2 (hh r hrw)
    · unfold eqn
      rw [hz r (by omega) hr, dt_z w (fun c hc => by rw [h.2.2.2.2 r c (by omega) hr (by have := h.1; omega), Nat.zero_mul])]
/-! ===== the answer of a machine, without a way to find it ===== -/
def mSol (V : Mc) (x : Nat → Nat) : Prop := xb (2 * nB V) x ∧ ∀ p, p < nP V → lawEq V p x
/-- 0 no answer, 1 one answer, 2 many -/
noncomputable def ansC (V : Mc) : Nat := @ite _ (whole V = true ∧ ∃ x, mSol V x) (Classical.propDecidable _) (@ite _ (∃ x y, mSol V x ∧ mSol V y ∧ ∃ c, c < 2 * nB V ∧ x c ≠ y c) (Classical.propDecidable _) 2 1) 0
noncomputable def ansX (V : Mc) : Nat → Nat := @dite _ (∃ x, mSol V x) (Classical.propDecidable _) (fun h => Classical.choose h) (fun _ => fun _ => 0)
theorem ansC_0 {V : Mc} (h : ∀ x, ¬ mSol V x) : ansC V = 0 := by
  unfold ansC
  rw [if_neg (fun z => z.2.elim h)]
theorem ansC_w {V : Mc} (h : ¬ whole V = true) : ansC V = 0 := by
  unfold ansC
  rw [if_neg (fun z => h z.1)]
theorem ansC_2 {V : Mc} (hw : whole V = true) {x y : Nat → Nat} (hx : mSol V x) (hy : mSol V y) {c : Nat} (hc : c < 2 * nB V) (hne : x c ≠ y c) : ansC V = 2 := by
  unfold ansC
  rw [if_pos ⟨hw, x, hx⟩, if_pos ⟨x, y, hx, hy, c, hc, hne⟩]
theorem ansC_1 {V : Mc} (hw : whole V = true) {z : Nat → Nat} (hz : mSol V z) (hu : ∀ x, mSol V x → ∀ c, c < 2 * nB V → x c = z c) : ansC V = 1 ∧ ∀ c, c < 2 * nB V → ansX V c = z c := by
  refine ⟨?_, fun c hc => ?_⟩
  · unfold ansC
    rw [if_pos ⟨hw, z, hz⟩, if_neg]
    intro ⟨x, y, hx, hy, c, hc, hne⟩
    exact hne ((hu x hx c hc).trans (hu y hy c hc).symm)
  · unfold ansX
    have hex : ∃ x, mSol V x := ⟨z, hz⟩
    rw [dif_pos hex]
    exact hu _ (Classical.choose_spec hex) c hc
/-- what an elimination of the laws' rows says of the machine's answer -/
theorem ans_G {V : Mc} {A0 A : Nat → Nat → Nat} {i k n : Nat} {pv : Nat → Nat} (hw : whole V = true) (hL : ∀ x, xb (2 * nB V) x → (Sol n (2 * nB V) A x ↔ ∀ p, p < nP V → lawEq V p x)) (h : GI A n (2 * nB V) i k pv) (hi : i = 2 * nB V ∨ k = n) (hB : Bd n (2 * nB V) A) :
    ((∃ r, k ≤ r ∧ r < n ∧ A r (2 * nB V) ≠ 0) → ansC V = 0) ∧ ((∀ r, k ≤ r → r < n → A r (2 * nB V) = 0) → k < 2 * nB V → ansC V = 2) ∧ ((∀ r, k ≤ r → r < n → A r (2 * nB V) = 0) → k = 2 * nB V → ansC V = 1 ∧ ∀ c, c < 2 * nB V → ansX V c = A c (2 * nB V)) := by
  refine ⟨fun ⟨r, h1, h2, h3⟩ => ansC_0 (fun x hx => G_none h hi h1 h2 h3 ((hL x hx.1).2 hx.2)), fun hz hk => ?_, fun hz hk => ?_⟩
  · obtain ⟨x, y, hx, hy, sx, sy, c, hc, hne⟩ := G_many h hi hB hz hk
    exact ansC_2 hw ⟨hx, (hL x hx).1 sx⟩ ⟨hy, (hL y hy).1 sy⟩ hc hne
  · have hb : xb (2 * nB V) (fun c => A c (2 * nB V)) := fun c hc => hB c _ (by have := h.1; omega) (Nat.le_refl _)
    exact ansC_1 hw (z := fun c => A c (2 * nB V)) ⟨hb, (hL _ hb).1 ((G_one h hk hb hz).2 (fun c _ => rfl))⟩ (fun x hx c hc => (G_one h hk hx.1 hz).1 ((hL x hx.1).2 hx.2) c hc)
