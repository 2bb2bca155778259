/-! ===== worths ===== -/
abbrev PR : Nat := 1000003
/-- the worth of a number -/
def wof (z : Int) : Nat := (z % 1000003).toNat
theorem wof_lt (z : Int) : wof z < 1000003 := by
  unfold wof
  have := Int.emod_lt_of_pos z (b := 1000003) (by decide)
  have := Int.emod_nonneg z (b := 1000003) (by decide)
  omega
theorem wof_nat (n : Nat) : wof (n : Int) = n % 1000003 := by
  unfold wof
  omega
theorem i_rng (x : Int32) : -2147483648 ≤ x.toInt ∧ x.toInt < 2147483648 := ⟨x.le_toInt, x.toInt_lt⟩
theorem l_rng (x : Int64) : -9223372036854775808 ≤ x.toInt ∧ x.toInt < 9223372036854775808 := ⟨x.le_toInt, x.toInt_lt⟩
theorem bm32 {z : Int} (h1 : -2147483648 ≤ z) (h2 : z < 2147483648) : z.bmod (2 ^ 32) = z := by
  rw [Int.bmod_def]
  split <;> omega
theorem bm64 {z : Int} (h1 : -9223372036854775808 ≤ z) (h2 : z < 9223372036854775808) : z.bmod (2 ^ 64) = z := by
  rw [Int.bmod_def]
  split <;> omega
theorem tdv (z k : Int) (hk : 0 < k) : z.tdiv k * k + z.tmod k = z ∧ -k < z.tmod k ∧ z.tmod k < k ∧ (0 ≤ z → 0 ≤ z.tmod k) ∧ (z ≤ 0 → z.tmod k ≤ 0) := by
  refine ⟨?_, (tmod_bounds hk).1, (tmod_bounds hk).2, fun h => Int.tmod_nonneg k h, fun h => ?_⟩
  · have := Int.tmod_def z k
    have := Int.mul_comm k (z.tdiv k)
    omega
  · have := Int.tmod_nonneg k (a := -z) (by omega)
    rw [Int.neg_tmod] at this
    omega
theorem i_rem {x y : Int32} (hy : 0 < y.toInt) : (x - x / y * y).toInt = x.toInt.tmod y.toInt := by
  obtain ⟨h1, h2, h3, h4, h5⟩ := tdv x.toInt y.toInt hy
  have hx := i_rng x
  have hyr := i_rng y
  have hq : x.toInt.tdiv y.toInt * y.toInt = x.toInt - x.toInt.tmod y.toInt := by omega
  have hqb : -2147483648 ≤ x.toInt.tdiv y.toInt * y.toInt ∧ x.toInt.tdiv y.toInt * y.toInt < 2147483648 := by
    rw [hq]
    by_cases h : 0 ≤ x.toInt
    · have := h4 h
      have : x.toInt.tmod y.toInt ≤ x.toInt := by
        have h7 := Int.mul_nonneg (Int.tdiv_nonneg h (Int.le_of_lt hy)) (Int.le_of_lt hy)
        omega
      omega
    · have := h5 (by omega)
      have : x.toInt ≤ x.toInt.tmod y.toInt := by
        have h7 := Int.mul_nonneg (Int.tdiv_nonneg (a := -x.toInt) (b := y.toInt) (by omega) (Int.le_of_lt hy)) (Int.le_of_lt hy)
        rw [Int.neg_tdiv, Int.neg_mul] at h7
        omega
      omega
  have hd : (x / y).toInt = x.toInt.tdiv y.toInt := by
    rw [Int32.toInt_div]
    refine bm32 ?_ ?_
    · have : -x.toInt.natAbs ≤ x.toInt.tdiv y.toInt := by
        have := Int.natAbs_tdiv_le_natAbs x.toInt y.toInt
        omega
      omega
    · by_cases h : 0 ≤ x.toInt
      · have := Int.natAbs_tdiv_le_natAbs x.toInt y.toInt
        omega
      · have h7 := Int.tdiv_nonneg (a := -x.toInt) (b := y.toInt) (by omega) (Int.le_of_lt hy)
        rw [Int.neg_tdiv] at h7
        omega
  rw [Int32.toInt_sub, Int32.toInt_mul, hd, bm32 hqb.1 hqb.2, hq, show x.toInt - (x.toInt - x.toInt.tmod y.toInt) = x.toInt.tmod y.toInt by omega]
  exact bm32 (by omega) (by omega)
theorem l_rem {x y : Int64} (hy : 0 < y.toInt) : (x - x / y * y).toInt = x.toInt.tmod y.toInt := by
  obtain ⟨h1, h2, h3, h4, h5⟩ := tdv x.toInt y.toInt hy
  have hx := l_rng x
  have hyr := l_rng y
  have hq : x.toInt.tdiv y.toInt * y.toInt = x.toInt - x.toInt.tmod y.toInt := by omega
  have hqb : -9223372036854775808 ≤ x.toInt.tdiv y.toInt * y.toInt ∧ x.toInt.tdiv y.toInt * y.toInt < 9223372036854775808 := by
    rw [hq]
    by_cases h : 0 ≤ x.toInt
    · have := h4 h
      have h7 := Int.mul_nonneg (Int.tdiv_nonneg h (Int.le_of_lt hy)) (Int.le_of_lt hy)
      omega
    · have := h5 (by omega)
      have h7 := Int.mul_nonneg (Int.tdiv_nonneg (a := -x.toInt) (b := y.toInt) (by omega) (Int.le_of_lt hy)) (Int.le_of_lt hy)
      rw [Int.neg_tdiv, Int.neg_mul] at h7
      omega
  have hd : (x / y).toInt = x.toInt.tdiv y.toInt := by
    rw [Int64.toInt_div]
    refine bm64 ?_ ?_
    · have := Int.natAbs_tdiv_le_natAbs x.toInt y.toInt
      omega
    · by_cases h : 0 ≤ x.toInt
      · have := Int.natAbs_tdiv_le_natAbs x.toInt y.toInt
        omega
      · have h7 := Int.tdiv_nonneg (a := -x.toInt) (b := y.toInt) (by omega) (Int.le_of_lt hy)
        rw [Int.neg_tdiv] at h7
        omega
  rw [Int64.toInt_sub, Int64.toInt_mul, hd, bm64 hqb.1 hqb.2, hq, show x.toInt - (x.toInt - x.toInt.tmod y.toInt) = x.toInt.tmod y.toInt by omega]
  exact bm64 (by omega) (by omega)
theorem i_xneg {x y : Int32} (hy : 0 ≤ y.toInt) : (x ^^^ y).toInt < 0 ↔ x.toInt < 0 := by
  have e : ∀ z : Int32, z.toBitVec.msb = decide (z.toInt < 0) := fun z => BitVec.msb_eq_toInt
  have h := e (x ^^^ y)
  rw [Int32.toBitVec_xor, BitVec.msb_xor, e x, e y, decide_eq_false (Int.not_lt.mpr hy), Bool.xor_false] at h
  exact (decide_eq_decide.mp h).symm
theorem wof_tmod (z : Int) : (if z.tmod 1000003 < 0 then z.tmod 1000003 + 1000003 else z.tmod 1000003) = (wof z : Int) := by
  obtain ⟨h1, h2, h3, h4, h5⟩ := tdv z 1000003 (by decide)
  unfold wof
  split <;> omega
