/-! ===== counted numbers through arithmetic ===== -/
theorem i_lt {x y : Int32} : x < y ↔ x.toInt < y.toInt := Int32.lt_iff_toInt_lt
theorem i_le {x y : Int32} : x ≤ y ↔ x.toInt ≤ y.toInt := Int32.le_iff_toInt_le
theorem i_eq {x y : Int32} : x = y ↔ x.toInt = y.toInt := ⟨fun h => by rw [h], fun h => Int32.toInt_inj.mp h⟩
theorem nT {n : Nat} (h : n < 2147483648) : (nI n).toInt = (n : Int) := nI_toInt h
theorem i_0 : (0 : Int32).toInt = 0 := rfl
/-- a number that is one of 0 .. n-1 -/
abbrev inR (x : Int32) (n : Nat) : Prop := 0 ≤ x.toInt ∧ x.toInt < (n : Int)
theorem inR_nI {x : Int32} {n : Nat} (h : inR x n) : ∃ j, j < n ∧ x = nI j := by
  have hb := x.toInt_lt
  refine ⟨x.toInt.toNat, by omega, ?_⟩
  rw [i_eq, nT (by omega)]
  omega
theorem nI_inR {j n : Nat} (h : j < 2147483648) : inR (nI j) n ↔ j < n := by
  unfold inR
  rw [nT h]
  omega
section NATR
variable {l : Launch} {E : En} {d : Nat} {M : Mt} {Z0 : Zt} {pc pc2 tgt : Nat} {ls : List (Option AV)} {st : List AV} {I : It} {L : Lt} {R : Rt} {Z : Zt} {Q : Qt}
theorem awN_iadd {a b : Nat} (hd : Dc M pc .iadd 1 pc2) (k : AWq l E d M Z0 pc2 ls (vi (nI (a + b)) :: st) I L R Z Q) : AWq l E d M Z0 pc ls (vi (nI b) :: vi (nI a) :: st) I L R Z Q := by
  refine aw_iadd hd ?_
  rw [nI_add]
  exact k
theorem awN_imul {a b : Nat} (hd : Dc M pc .imul 1 pc2) (k : AWq l E d M Z0 pc2 ls (vi (nI (a * b)) :: st) I L R Z Q) : AWq l E d M Z0 pc ls (vi (nI b) :: vi (nI a) :: st) I L R Z Q := by
  refine aw_imul hd ?_
  rw [pk_mul]
  exact k
theorem awN_isub {a b : Nat} (hd : Dc M pc .isub 1 pc2) (h : b ≤ a) (k : AWq l E d M Z0 pc2 ls (vi (nI (a - b)) :: st) I L R Z Q) : AWq l E d M Z0 pc ls (vi (nI b) :: vi (nI a) :: st) I L R Z Q := by
  refine aw_isub hd ?_
  rw [pk_sub h]
  exact k
theorem awN_idiv {a b : Nat} (hd : Dc M pc .idiv 1 pc2) (ha : a < 2147483648) (h0 : 0 < b) (hb : b < 2147483648) (k : AWq l E d M Z0 pc2 ls (vi (nI (a / b)) :: st) I L R Z Q) : AWq l E d M Z0 pc ls (vi (nI b) :: vi (nI a) :: st) I L R Z Q := by
  refine aw_idiv hd (fun q => absurd ((nI_z hb).mp q) (by omega)) ?_
  rw [pk_div ha h0 hb]
  exact k
theorem awN_irem {a b : Nat} (hd : Dc M pc .irem 1 pc2) (ha : a < 2147483648) (h0 : 0 < b) (hb : b < 2147483648) (k : AWq l E d M Z0 pc2 ls (vi (nI (a % b)) :: st) I L R Z Q) : AWq l E d M Z0 pc ls (vi (nI b) :: vi (nI a) :: st) I L R Z Q := by
  refine aw_irem hd (fun q => absurd ((nI_z hb).mp q) (by omega)) ?_
  rw [pk_rem ha h0 hb]
  exact k
theorem awN_ladd {a b : Nat} (hd : Dc M pc .ladd 1 pc2) (k : AWq l E d M Z0 pc2 ls (vl (lN (a + b)) :: st) I L R Z Q) : AWq l E d M Z0 pc ls (vl (lN b) :: vl (lN a) :: st) I L R Z Q := by
  refine aw_ladd hd ?_
  rw [lN_add]
  exact k
theorem awN_lmul {a b : Nat} (hd : Dc M pc .lmul 1 pc2) (k : AWq l E d M Z0 pc2 ls (vl (lN (a * b)) :: st) I L R Z Q) : AWq l E d M Z0 pc ls (vl (lN b) :: vl (lN a) :: st) I L R Z Q := by
  refine aw_lmul hd ?_
  rw [lN_mul]
  exact k
theorem awN_lsub {a b : Nat} (hd : Dc M pc .lsub 1 pc2) (h : b ≤ a) (k : AWq l E d M Z0 pc2 ls (vl (lN (a - b)) :: st) I L R Z Q) : AWq l E d M Z0 pc ls (vl (lN b) :: vl (lN a) :: st) I L R Z Q := by
  refine aw_lsub hd ?_
  rw [lN_sub h]
  exact k
theorem awN_lrem {a b : Nat} (hd : Dc M pc .lrem 1 pc2) (ha : a < 9223372036854775808) (h0 : 0 < b) (hb : b < 9223372036854775808) (k : AWq l E d M Z0 pc2 ls (vl (lN (a % b)) :: st) I L R Z Q) : AWq l E d M Z0 pc ls (vl (lN b) :: vl (lN a) :: st) I L R Z Q := by
  refine aw_lrem hd (fun q => by have h9 := (pk_lEQ (a := b) (b := 0) hb (by decide)).mp q; omega) ?_
  rw [pk_lRem ha h0 hb]
  exact k
theorem awN_ldiv {a b : Nat} (hd : Dc M pc .ldiv 1 pc2) (ha : a < 9223372036854775808) (h0 : 0 < b) (hb : b < 9223372036854775808) (k : AWq l E d M Z0 pc2 ls (vl (lN (a / b)) :: st) I L R Z Q) : AWq l E d M Z0 pc ls (vl (lN b) :: vl (lN a) :: st) I L R Z Q := by
  refine aw_ldiv hd (fun q => by have h9 := (pk_lEQ (a := b) (b := 0) hb (by decide)).mp q; omega) ?_
  rw [pk_lDiv ha h0 hb]
  exact k
theorem awN_i2l {a : Nat} (hd : Dc M pc .i2l 1 pc2) (h : a < 2147483648) (k : AWq l E d M Z0 pc2 ls (vl (lN a) :: st) I L R Z Q) : AWq l E d M Z0 pc ls (vi (nI a) :: st) I L R Z Q := by
  refine aw_i2l hd ?_
  rw [nI_l h]
  exact k
theorem awN_l2i {a : Nat} (hd : Dc M pc .l2i 1 pc2) (k : AWq l E d M Z0 pc2 ls (vi (nI a) :: st) I L R Z Q) : AWq l E d M Z0 pc ls (vl (lN a) :: st) I L R Z Q := by
  refine aw_l2i hd ?_
  rw [lN_i]
  exact k
theorem cmpN {a b : Nat} (ha : a < 9223372036854775808) (hb : b < 9223372036854775808) : lg_cmp (lN a) (lN b) = if a < b then -1 else if a = b then 0 else 1 := by
  unfold lg_cmp
  by_cases h1 : a < b
  · rw [if_pos h1]
    simp [(pk_lLT ha hb).mpr h1, (pk_lLT hb ha), (pk_lEQ ha hb), Nat.ne_of_lt h1, h1, Nat.not_lt.mpr (Nat.le_of_lt h1)]
  · by_cases h2 : a = b
    · rw [if_neg h1, if_pos h2]
      subst h2
      simp
    · rw [if_neg h1, if_neg h2]
      simp [(pk_lLT ha hb), (pk_lLT hb ha), (pk_lEQ ha hb), h2, h1, show b < a by omega]
theorem awZ_icmp_eq {x y : Int32} {off : Int} (hd : Db M pc (.if_icmp .eq off) off tgt pc2) (kt : x.toInt = y.toInt → AWq l E d M Z0 tgt ls st I L R Z Q) (kf : ¬ x.toInt = y.toInt → AWq l E d M Z0 pc2 ls st I L R Z Q) : AWq l E d M Z0 pc ls (vi y :: vi x :: st) I L R Z Q :=
  aw_icmp_eq hd (fun h => kt (i_eq.mp h)) (fun h => kf (fun q => h (i_eq.mpr q)))
theorem awZ_if_eq {x : Int32} {off : Int} (hd : Db M pc (.ifCond .eq off) off tgt pc2) (kt : x.toInt = 0 → AWq l E d M Z0 tgt ls st I L R Z Q) (kf : ¬ x.toInt = 0 → AWq l E d M Z0 pc2 ls st I L R Z Q) : AWq l E d M Z0 pc ls (vi x :: st) I L R Z Q :=
  aw_if_eq hd (fun h => kt (i_eq.mp h)) (fun h => kf (fun q => h (i_eq.mpr q)))
theorem awZ_icmp_ne {x y : Int32} {off : Int} (hd : Db M pc (.if_icmp .ne off) off tgt pc2) (kt : ¬ x.toInt = y.toInt → AWq l E d M Z0 tgt ls st I L R Z Q) (kf : x.toInt = y.toInt → AWq l E d M Z0 pc2 ls st I L R Z Q) : AWq l E d M Z0 pc ls (vi y :: vi x :: st) I L R Z Q :=
  aw_icmp_ne hd (fun h => kt (fun q => h (i_eq.mpr q))) (fun h => kf (i_eq.mp h))
theorem awZ_if_ne {x : Int32} {off : Int} (hd : Db M pc (.ifCond .ne off) off tgt pc2) (kt : ¬ x.toInt = 0 → AWq l E d M Z0 tgt ls st I L R Z Q) (kf : x.toInt = 0 → AWq l E d M Z0 pc2 ls st I L R Z Q) : AWq l E d M Z0 pc ls (vi x :: st) I L R Z Q :=
  aw_if_ne hd (fun h => kt (fun q => h (i_eq.mpr q))) (fun h => kf (i_eq.mp h))
theorem awZ_icmp_lt {x y : Int32} {off : Int} (hd : Db M pc (.if_icmp .lt off) off tgt pc2) (kt : x.toInt < y.toInt → AWq l E d M Z0 tgt ls st I L R Z Q) (kf : ¬ x.toInt < y.toInt → AWq l E d M Z0 pc2 ls st I L R Z Q) : AWq l E d M Z0 pc ls (vi y :: vi x :: st) I L R Z Q :=
  aw_icmp_lt hd (fun h => kt (i_lt.mp h)) (fun h => kf (fun q => h (i_lt.mpr q)))
theorem awZ_if_lt {x : Int32} {off : Int} (hd : Db M pc (.ifCond .lt off) off tgt pc2) (kt : x.toInt < 0 → AWq l E d M Z0 tgt ls st I L R Z Q) (kf : ¬ x.toInt < 0 → AWq l E d M Z0 pc2 ls st I L R Z Q) : AWq l E d M Z0 pc ls (vi x :: st) I L R Z Q :=
  aw_if_lt hd (fun h => kt (i_lt.mp h)) (fun h => kf (fun q => h (i_lt.mpr q)))
theorem awZ_icmp_ge {x y : Int32} {off : Int} (hd : Db M pc (.if_icmp .ge off) off tgt pc2) (kt : y.toInt ≤ x.toInt → AWq l E d M Z0 tgt ls st I L R Z Q) (kf : ¬ y.toInt ≤ x.toInt → AWq l E d M Z0 pc2 ls st I L R Z Q) : AWq l E d M Z0 pc ls (vi y :: vi x :: st) I L R Z Q :=
  aw_icmp_ge hd (fun h => kt (i_le.mp h)) (fun h => kf (fun q => h (i_le.mpr q)))
theorem awZ_if_ge {x : Int32} {off : Int} (hd : Db M pc (.ifCond .ge off) off tgt pc2) (kt : 0 ≤ x.toInt → AWq l E d M Z0 tgt ls st I L R Z Q) (kf : ¬ 0 ≤ x.toInt → AWq l E d M Z0 pc2 ls st I L R Z Q) : AWq l E d M Z0 pc ls (vi x :: st) I L R Z Q :=
  aw_if_ge hd (fun h => kt (i_le.mp h)) (fun h => kf (fun q => h (i_le.mpr q)))
theorem awZ_icmp_gt {x y : Int32} {off : Int} (hd : Db M pc (.if_icmp .gt off) off tgt pc2) (kt : y.toInt < x.toInt → AWq l E d M Z0 tgt ls st I L R Z Q) (kf : ¬ y.toInt < x.toInt → AWq l E d M Z0 pc2 ls st I L R Z Q) : AWq l E d M Z0 pc ls (vi y :: vi x :: st) I L R Z Q :=
  aw_icmp_gt hd (fun h => kt (i_lt.mp h)) (fun h => kf (fun q => h (i_lt.mpr q)))
theorem awZ_if_gt {x : Int32} {off : Int} (hd : Db M pc (.ifCond .gt off) off tgt pc2) (kt : 0 < x.toInt → AWq l E d M Z0 tgt ls st I L R Z Q) (kf : ¬ 0 < x.toInt → AWq l E d M Z0 pc2 ls st I L R Z Q) : AWq l E d M Z0 pc ls (vi x :: st) I L R Z Q :=
  aw_if_gt hd (fun h => kt (i_lt.mp h)) (fun h => kf (fun q => h (i_lt.mpr q)))
theorem awZ_icmp_le {x y : Int32} {off : Int} (hd : Db M pc (.if_icmp .le off) off tgt pc2) (kt : x.toInt ≤ y.toInt → AWq l E d M Z0 tgt ls st I L R Z Q) (kf : ¬ x.toInt ≤ y.toInt → AWq l E d M Z0 pc2 ls st I L R Z Q) : AWq l E d M Z0 pc ls (vi y :: vi x :: st) I L R Z Q :=
  aw_icmp_le hd (fun h => kt (i_le.mp h)) (fun h => kf (fun q => h (i_le.mpr q)))
theorem awZ_if_le {x : Int32} {off : Int} (hd : Db M pc (.ifCond .le off) off tgt pc2) (kt : x.toInt ≤ 0 → AWq l E d M Z0 tgt ls st I L R Z Q) (kf : ¬ x.toInt ≤ 0 → AWq l E d M Z0 pc2 ls st I L R Z Q) : AWq l E d M Z0 pc ls (vi x :: st) I L R Z Q :=
  aw_if_le hd (fun h => kt (i_le.mp h)) (fun h => kf (fun q => h (i_le.mpr q)))
end NATR
