/-! ===== the prime, and inverses ===== -/
theorem P_tr : ∀ d, d < 1001 → 2 ≤ d → ¬ 1000003 % d = 0 := by decide +kernel
theorem P_cop {k : Nat} (h0 : 0 < k) (h : k < 1000003) : Nat.gcd k 1000003 = 1 := by
  generalize hg : Nat.gcd k 1000003 = g
  have h1 : g ∣ k := hg ▸ Nat.gcd_dvd_left k 1000003
  have h2 : g ∣ 1000003 := hg ▸ Nat.gcd_dvd_right k 1000003
  have h3 : g ≤ k := Nat.le_of_dvd h0 h1
  have h4 : 0 < g := Nat.pos_of_dvd_of_pos h1 h0
  apply Classical.byContradiction
  intro hne
  by_cases hs : g < 1001
  · exact P_tr g hs (by omega) (Nat.mod_eq_zero_of_dvd h2)
  · obtain ⟨m, hm⟩ := h2
    have h5 : 1001 * m ≤ g * m := Nat.mul_le_mul_right m (by omega)
    have h6 : m < 1001 := by omega
    have h7 : ¬ m < 2 := by
      intro z
      have : m = 0 ∨ m = 1 := by omega
      rcases this with e | e <;> subst e <;> omega
    refine P_tr m h6 (by omega) (Nat.mod_eq_zero_of_dvd ⟨g, ?_⟩)
    rw [hm, Nat.mul_comm]
def bC : Nat → Nat → Nat
  | _, 0 => 1
  | 0, _ + 1 => 0
  | n + 1, k + 1 => bC n k + bC n (k + 1)
theorem bC_z (n : Nat) : bC n 0 = 1 := by cases n <;> rfl
theorem bC_s (n k : Nat) : bC (n + 1) (k + 1) = bC n k + bC n (k + 1) := rfl
theorem bC_hi : ∀ n k, n < k → bC n k = 0
  | 0, k + 1, _ => rfl
  | n + 1, k + 1, h => by rw [bC_s, bC_hi n k (by omega), bC_hi n (k + 1) (by omega)]
theorem bC_n : ∀ n, bC n n = 1
  | 0 => rfl
  | n + 1 => by rw [bC_s, bC_n n, bC_hi n (n + 1) (by omega)]
theorem bC_1 : ∀ n, bC n 1 = n
  | 0 => rfl
  | n + 1 => by rw [bC_s, bC_z, bC_1 n]; omega
theorem bC_mul : ∀ n k, (n + 1) * bC n k = bC (n + 1) (k + 1) * (k + 1)
  | 0, 0 => rfl
  | 0, k + 1 => by rw [bC_s, bC_hi 0 (k + 1) (by omega), bC_hi 0 (k + 2) (by omega)]; simp
  | n + 1, 0 => by rw [bC_z, bC_1]
  | n + 1, k + 1 => by
    have h1 := bC_mul n k
    have h2 := bC_mul n (k + 1)
    rw [bC_s (n + 1) (k + 1), Nat.add_mul (bC (n + 1) (k + 1)), Nat.mul_add (bC (n + 1) (k + 1)), ← h1, ← h2, bC_s n k, Nat.mul_one, Nat.add_mul (n + 1) 1, Nat.mul_add (n + 1), Nat.one_mul]
    omega
def bS (a n : Nat) : Nat → Nat
  | 0 => 0
  | m + 1 => bS a n m + bC n m * a ^ m
theorem bS_n (a n : Nat) : ∀ m, bS a (n + 1) (m + 1) = bS a n (m + 1) + a * bS a n m
  | 0 => by simp [bS, bC_z]
  | m + 1 => by
    show bS a (n + 1) (m + 1) + bC (n + 1) (m + 1) * a ^ (m + 1) = (bS a n (m + 1) + bC n (m + 1) * a ^ (m + 1)) + a * (bS a n m + bC n m * a ^ m)
    rw [bS_n a n m, bC_s, Nat.add_mul, Nat.mul_add a, show a * (bC n m * a ^ m) = bC n m * a ^ (m + 1) by rw [Nat.pow_succ, Nat.mul_comm a, Nat.mul_assoc]]
    omega
theorem bS_all (a : Nat) : ∀ n, bS a n (n + 1) = (a + 1) ^ n
  | 0 => by simp [bS, bC_z]
  | n + 1 => by
    have h : bS a n (n + 1 + 1) = bS a n (n + 1) := by
      show bS a n (n + 1) + bC n (n + 1) * a ^ (n + 1) = _
      rw [bC_hi n (n + 1) (by omega)]
      omega
    rw [bS_n, h, bS_all a n, Nat.pow_succ, Nat.mul_add, Nat.mul_one, Nat.mul_comm a]
    omega
theorem bC_dvd {p : Nat} (hc : ∀ k, 0 < k → k < p → Nat.gcd k p = 1) {k : Nat} (h0 : 0 < k) (h : k < p) : p ∣ bC p k := by
  obtain ⟨q, rfl⟩ : ∃ q, p = q + 1 := ⟨p - 1, by omega⟩
  obtain ⟨j, rfl⟩ : ∃ j, k = j + 1 := ⟨k - 1, by omega⟩
  have h1 := bC_mul q j
  have h2 : q + 1 ∣ bC (q + 1) (j + 1) * (j + 1) := ⟨bC q j, h1.symm⟩
  have h3 : Nat.Coprime (q + 1) (j + 1) := by
    show Nat.gcd (q + 1) (j + 1) = 1
    rw [Nat.gcd_comm]
    exact hc _ h0 h
  exact Nat.Coprime.dvd_of_dvd_mul_right h3 h2
theorem bS_mod {p : Nat} (hp : 2 ≤ p) (hc : ∀ k, 0 < k → k < p → Nat.gcd k p = 1) (a : Nat) : ∀ m, m < p → bS a p (m + 1) % p = 1
  | 0, _ => by
    show (0 + bC p 0 * a ^ 0) % p = 1
    rw [bC_z, Nat.pow_zero]
    exact Nat.mod_eq_of_lt (show 0 + 1 * 1 < p by omega)
  | m + 1, h => by
    show (bS a p (m + 1) + bC p (m + 1) * a ^ (m + 1)) % p = 1
    obtain ⟨c, hc2⟩ := bC_dvd hc (Nat.succ_pos m) h
    rw [hc2, Nat.mul_assoc, Nat.add_mul_mod_self_left]
    exact bS_mod hp hc a m (by omega)
theorem dream {p : Nat} (hp : 2 ≤ p) (hc : ∀ k, 0 < k → k < p → Nat.gcd k p = 1) (a : Nat) : (a + 1) ^ p % p = (1 + a ^ p) % p := by
  rw [← bS_all]
  show (bS a p p + bC p p * a ^ p) % p = _
  rw [bC_n, Nat.one_mul]
  have h := bS_mod hp hc a (p - 1) (by omega)
  rw [show p - 1 + 1 = p by omega] at h
  rw [Nat.add_mod, h, Nat.add_mod_mod]
theorem fermat {p : Nat} (hp : 2 ≤ p) (hc : ∀ k, 0 < k → k < p → Nat.gcd k p = 1) : ∀ a, a ^ p % p = a % p
  | 0 => by rw [Nat.zero_pow (by omega)]
  | a + 1 => by
    rw [dream hp hc, Nat.add_mod, fermat hp hc a, ← Nat.add_mod, Nat.add_comm]
theorem fermat1 {p : Nat} (hp : 2 ≤ p) (hc : ∀ k, 0 < k → k < p → Nat.gcd k p = 1) {w q : Nat} (hq : p = q + 1) (h0 : 0 < w) (hw : w < p) : w ^ q % p = 1 := by
  have h1 := fermat hp hc w
  have hpos : 0 < w ^ q := Nat.pow_pos h0
  have h2 : p ∣ w * (w ^ q - 1) := by
    apply Nat.dvd_of_mod_eq_zero
    rw [Nat.mul_sub, Nat.mul_one, show w * w ^ q = w ^ p by rw [hq, Nat.pow_succ, Nat.mul_comm]]
    exact Nat.sub_mod_eq_zero_of_mod_eq h1
  have h3 : p ∣ (w ^ q - 1) := Nat.Coprime.dvd_of_dvd_mul_left (show Nat.gcd p w = 1 by rw [Nat.gcd_comm]; exact hc w h0 hw) h2
  obtain ⟨c, hc3⟩ := h3
  rw [show w ^ q = 1 + p * c by omega, Nat.add_mul_mod_self_left]
  exact Nat.mod_eq_of_lt (by omega)
theorem ivP_mul {w : Nat} (h0 : 0 < w) (hw : w < 1000003) : w * ivP w % 1000003 = 1 := by
  have h := fermat1 (p := 1000003) (by decide) (fun k h1 h2 => P_cop h1 h2) (q := 1000002) rfl h0 hw
  rw [← h]
  unfold ivP
  rw [Nat.mul_mod_mod]
  have e : w ^ 1000002 = w * w ^ 1000001 := by
    rw [show 1000002 = 1000001 + 1 from rfl, Nat.pow_succ, Nat.mul_comm]
  rw [e]
