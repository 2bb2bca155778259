/-! ===== making the objects, 2 ===== -/
def Tg (t i f : Nat) : Option (Nat × Nat) := if t = 8 ∨ t = 24 ∨ t = 25 ∨ t = 9 then none else if t = 10 then (if i < 3 ∧ f < 12 then some (3, 12 * i + f) else none) else if t = 16 then (if i < 2 ∧ f < 24 then some (17, 24 * i + f) else none) else Rf t i f
def Rl (t i : Nat) : Prop := who (adr t i) = (t, i)
def INV (R0 : Rt) (c : Nat) (R : Rt) : Prop := (∀ t i f q, Rl t i → adr t i < c → Tg t i f = some q → R t i f = some q) ∧ (∀ t i, ¬ Rl t i → R t i = R0 t i) ∧ ∀ j f, R 17 j f = none
theorem INV_st {R0 R R2 : Rt} {c c2 : Nat} (h : INV R0 c R) (S : Nat → Nat → Prop) (hS : ∀ t i, S t i → Rl t i ∧ c ≤ adr t i ∧ t ≠ 17) (hfr : ∀ t i, ¬ S t i → R2 t i = R t i) (hn : ∀ j, c ≤ j → j < c2 → ∀ f q, Tg (who j).1 (who j).2 f = some q → R2 (who j).1 (who j).2 f = some q) : INV R0 c2 R2 := by
  refine ⟨fun t i f q hr ha hq => ?_, fun t i hr => ?_, fun j f => ?_⟩
  · by_cases e : adr t i < c
    · rw [hfr t i (fun z => by have := (hS t i z).2.1; omega)]
      exact h.1 t i f q hr e hq
    · have := hn (adr t i) (by omega) ha f q
      rw [show who (adr t i) = (t, i) from hr] at this
      exact this hq
  · rw [hfr t i (fun z => hr (hS t i z).1)]; exact h.2.1 t i hr
  · rw [hfr 17 j (fun z => (hS 17 j z).2.2 rfl)]; exact h.2.2 j f
theorem INV_p {R0 R : Rt} {c t f : Nat} {x : Option (Nat × Nat)} (h : INV R0 c R) (ht : t = 8 ∨ t = 24 ∨ t = 25) : INV R0 c (sR R t 0 f x) := by
  have hw : who 0 = (8, 0) ∧ who 116 = (24, 0) ∧ who 117 = (25, 0) := by decide
  refine ⟨fun t2 i2 g q hr ha hq => ?_, fun t2 i2 hr => ?_, fun j g => ?_⟩
  · rw [sR_n (fun z => ?_)]
    · exact h.1 t2 i2 g q hr ha hq
    · unfold Tg at hq
      rw [if_pos (by omega)] at hq
      cases hq
  · rw [sR_n (fun z => hr ?_)]
    · exact h.2.1 t2 i2 hr
    · rw [z.1, z.2]
      rcases ht with rfl | rfl | rfl
      · exact hw.1
      · exact hw.2.1
      · exact hw.2.2
  · rw [sR_n (by omega)]; exact h.2.2 j g
theorem Tg_n {t i f : Nat} (h : ¬ (t = 0 ∨ t = 1 ∨ t = 2 ∨ t = 4 ∨ t = 5 ∨ t = 6 ∨ t = 10 ∨ t = 16)) : Tg t i f = none := by
  unfold Tg
  by_cases e : t = 8 ∨ t = 24 ∨ t = 25 ∨ t = 9
  · rw [if_pos e]
  · rw [if_neg e, if_neg (by omega), if_neg (by omega)]
    unfold Rf
    rw [if_neg (by omega), if_neg (by omega), if_neg (by omega), if_neg (by omega), if_neg (by omega), if_neg (by omega), if_neg (by omega), if_neg (by omega)]
theorem INV_Ma {R0 R R2 : Rt} {k : Nat} (hk : k < 3) (h : INV R0 (1 + 17 * k) R) (hfr : ∀ t i, ¬ ((t = 2 ∨ t = 10) ∧ i = k) → R2 t i = R t i) (h0 : R2 2 k 0 = some (10, k) ∧ R2 2 k 1 = some (11, k) ∧ R2 2 k 2 = some (12, k) ∧ R2 2 k 3 = some (13, k)) (hp : ∀ q, q < 12 → R2 10 k q = some (3, 12 * k + q)) : INV R0 (18 + 17 * k) R2 := by
  have hw := who_M k hk
  refine INV_st h (fun t i => (t = 2 ∨ t = 10) ∧ i = k) (fun t i z => ?_) hfr (fun j h1 h2 f q => ?_)
  · obtain ⟨rfl | rfl, rfl⟩ := z
    · exact ⟨hw.1, Nat.le_refl _, by decide⟩
    · exact ⟨hw.2.1, (by show 1 + 17 * i ≤ 2 + 17 * i; omega), by decide⟩
  · by_cases c0 : j = 1 + 17 * k
    · rw [c0, hw.1]
      show (([(10, k), (11, k), (12, k), (13, k)] : List (Nat × Nat))[f]?) = some q → R2 2 k f = some q
      intro hq
      have hf : f < 4 := (List.getElem?_eq_some_iff.mp hq).1
      have hf4 : f = 0 ∨ f = 1 ∨ f = 2 ∨ f = 3 := by omega
      rcases hf4 with rfl | rfl | rfl | rfl
      · cases hq; exact h0.1
      · cases hq; exact h0.2.1
      · cases hq; exact h0.2.2.1
      · cases hq; exact h0.2.2.2
    · by_cases c1 : j = 2 + 17 * k
      · rw [c1, hw.2.1]
        show (if k < 3 ∧ f < 12 then some (3, 12 * k + f) else none) = some q → R2 10 k f = some q
        intro hq
        by_cases e : k < 3 ∧ f < 12
        · rw [if_pos e] at hq; cases hq; exact hp f e.2
        · rw [if_neg e] at hq; cases hq
      · intro hq
        exfalso
        by_cases c2 : j = 3 + 17 * k
        · rw [c2, hw.2.2.1] at hq; cases hq
        · by_cases c3 : j = 4 + 17 * k
          · rw [c3, hw.2.2.2.1] at hq; cases hq
          · by_cases c4 : j = 5 + 17 * k
            · rw [c4, hw.2.2.2.2.1] at hq; cases hq
            · rw [show j = 6 + 17 * k + (j - 6 - 17 * k) by omega, hw.2.2.2.2.2 _ (by omega)] at hq
              cases hq
theorem INV_An {R0 R R2 : Rt} {a : Nat} (ha : a < 2) (h : INV R0 (52 + 28 * a) R) (hfr : ∀ t i, ¬ ((t = 0 ∨ t = 16) ∧ i = a) → R2 t i = R t i) (h0 : R2 0 a 0 = some (14, a) ∧ R2 0 a 1 = some (15, a) ∧ R2 0 a 2 = some (16, a)) (hp : ∀ r, r < 24 → R2 16 a r = some (17, 24 * a + r)) : INV R0 (80 + 28 * a) R2 := by
  have hw := who_A a ha
  refine INV_st h (fun t i => (t = 0 ∨ t = 16) ∧ i = a) (fun t i z => ?_) hfr (fun j h1 h2 f q => ?_)
  · obtain ⟨rfl | rfl, rfl⟩ := z
    · exact ⟨hw.1, Nat.le_refl _, by decide⟩
    · exact ⟨hw.2.2.2.1, (by show 52 + 28 * i ≤ 55 + 28 * i; omega), by decide⟩
  · by_cases c0 : j = 52 + 28 * a
    · rw [c0, hw.1]
      show (([(14, a), (15, a), (16, a)] : List (Nat × Nat))[f]?) = some q → R2 0 a f = some q
      intro hq
      have hf : f < 3 := (List.getElem?_eq_some_iff.mp hq).1
      have hf4 : f = 0 ∨ f = 1 ∨ f = 2 := by omega
      rcases hf4 with rfl | rfl | rfl
      · cases hq; exact h0.1
      · cases hq; exact h0.2.1
      · cases hq; exact h0.2.2
    · by_cases c1 : j = 55 + 28 * a
      · rw [c1, hw.2.2.2.1]
        show (if a < 2 ∧ f < 24 then some (17, 24 * a + f) else none) = some q → R2 16 a f = some q
        intro hq
        by_cases e : a < 2 ∧ f < 24
        · rw [if_pos e] at hq; cases hq; exact hp f e.2
        · rw [if_neg e] at hq; cases hq
      · intro hq
        exfalso
        by_cases c2 : j = 53 + 28 * a
        · rw [c2, hw.2.1] at hq; cases hq
        · by_cases c3 : j = 54 + 28 * a
          · rw [c3, hw.2.2.1] at hq; cases hq
          · rw [show j = 56 + 28 * a + (j - 56 - 28 * a) by omega, hw.2.2.2.2 _ (by omega)] at hq
            cases hq
theorem INV_Lu {R0 R R2 : Rt} (h : INV R0 108 R) (hfr : ∀ t i, ¬ (t = 1 ∧ i = 0) → R2 t i = R t i) (h0 : R2 1 0 0 = some (18, 0) ∧ R2 1 0 1 = some (19, 0)) : INV R0 111 R2 := by
  refine INV_st h (fun t i => t = 1 ∧ i = 0) (fun t i z => ?_) hfr (fun j h1 h2 f q => ?_)
  · obtain ⟨rfl, rfl⟩ := z; exact ⟨by show who 108 = _; decide, Nat.le_refl _, by decide⟩
  · have hj : j = 108 ∨ j = 109 ∨ j = 110 := by omega
    rcases hj with rfl | rfl | rfl
    · show (([(18, 0), (19, 0)] : List (Nat × Nat))[f]?) = some q → R2 1 0 f = some q
      intro hq
      have hf : f < 2 := (List.getElem?_eq_some_iff.mp hq).1
      have hf4 : f = 0 ∨ f = 1 := by omega
      rcases hf4 with rfl | rfl
      · cases hq; exact h0.1
      · cases hq; exact h0.2
    · intro hq; exact absurd (show Tg 18 0 f = some q from hq) (by rw [Tg_n (by decide)]; exact fun z => by cases z)
    · intro hq; exact absurd (show Tg 19 0 f = some q from hq) (by rw [Tg_n (by decide)]; exact fun z => by cases z)
theorem INV_Ta {R0 R R2 : Rt} (h : INV R0 111 R) (hfr : ∀ t i, ¬ (t = 6 ∧ i = 0) → R2 t i = R t i) (h0 : R2 6 0 2 = some (20, 0) ∧ R2 6 0 6 = some (21, 0)) : INV R0 114 R2 := by
  refine INV_st h (fun t i => t = 6 ∧ i = 0) (fun t i z => ?_) hfr (fun j h1 h2 f q => ?_)
  · obtain ⟨rfl, rfl⟩ := z; exact ⟨by show who 111 = _; decide, Nat.le_refl _, by decide⟩
  · have hj : j = 111 ∨ j = 112 ∨ j = 113 := by omega
    rcases hj with rfl | rfl | rfl
    · show (if f = 2 then some (20, 0) else if f = 6 then some (21, 0) else none) = some q → R2 6 0 f = some q
      intro hq
      by_cases e2 : f = 2
      · rw [if_pos e2] at hq; cases hq; rw [e2]; exact h0.1
      · rw [if_neg e2] at hq
        by_cases e6 : f = 6
        · rw [if_pos e6] at hq; cases hq; rw [e6]; exact h0.2
        · rw [if_neg e6] at hq; cases hq
    · intro hq; exact absurd (show Tg 20 0 f = some q from hq) (by rw [Tg_n (by decide)]; exact fun z => by cases z)
    · intro hq; exact absurd (show Tg 21 0 f = some q from hq) (by rw [Tg_n (by decide)]; exact fun z => by cases z)
theorem INV_ar {R0 R : Rt} {c : Nat} (h : INV R0 c R) (hc : ¬ ((who c).1 = 0 ∨ (who c).1 = 1 ∨ (who c).1 = 2 ∨ (who c).1 = 4 ∨ (who c).1 = 5 ∨ (who c).1 = 6 ∨ (who c).1 = 10 ∨ (who c).1 = 16)) : INV R0 (c + 1) R := by
  refine INV_st h (fun _ _ => False) (fun t i z => z.elim) (fun _ _ _ => rfl) (fun j h1 h2 f q hq => ?_)
  obtain rfl : j = c := by omega
  rw [Tg_n hc] at hq
  cases hq
theorem INV_Sh {R0 R R2 : Rt} {c n : Nat} (hc : c < 168) (h : INV R0 c R) (hw : who c = (4, n)) (hw2 : who (c + 1) = (26, n)) (hfr : ∀ t i, ¬ (t = 4 ∧ i = n) → R2 t i = R t i) (h0 : R2 4 n 2 = some (26, n)) : INV R0 (c + 2) R2 := by
  have ha := (adr_who_s c hc).1
  rw [hw] at ha
  refine INV_st h (fun t i => t = 4 ∧ i = n) (fun t i z => ?_) hfr (fun j h1 h2 f q => ?_)
  · obtain ⟨rfl, rfl⟩ := z; exact ⟨by unfold Rl; rw [ha]; exact hw, Nat.le_of_eq ha.symm, by decide⟩
  · by_cases e : j = c
    · rw [e, hw]
      show (if f = 2 then some (26, n) else none) = some q → R2 4 n f = some q
      intro hq
      by_cases e2 : f = 2
      · rw [if_pos e2] at hq; cases hq; rw [e2]; exact h0
      · rw [if_neg e2] at hq; cases hq
    · rw [show j = c + 1 by omega, hw2]
      intro hq
      exact absurd (show Tg 26 n f = some q from hq) (by rw [Tg_n (by decide)]; exact fun z => by cases z)
theorem INV_Sl {R0 R R2 : Rt} {i : Nat} (hi : i < 5) (h : INV R0 (126 + 4 * i) R) (hfr : ∀ t j, ¬ ((t = 5 ∧ j = i) ∨ (t = 4 ∧ j = 4 + i)) → R2 t j = R t j) (h0 : R2 5 i 2 = some (3, 36 + i) ∧ R2 5 i 3 = some (4, 4 + i)) (h4 : R2 4 (4 + i) 2 = some (26, 4 + i)) : INV R0 (130 + 4 * i) R2 := by
  have hw := who_L i hi
  have ha := (adr_who_s (128 + 4 * i) (by omega)).1
  rw [hw.2.2.1] at ha
  refine INV_st h (fun t j => (t = 5 ∧ j = i) ∨ (t = 4 ∧ j = 4 + i)) (fun t j z => ?_) hfr (fun j h1 h2 f q => ?_)
  · rcases z with ⟨rfl, rfl⟩ | ⟨rfl, rfl⟩
    · exact ⟨hw.1, Nat.le_refl _, by decide⟩
    · have ha' : adr 4 (4 + i) = 128 + 4 * i := ha
      exact ⟨by unfold Rl; rw [ha']; exact hw.2.2.1, by omega, by decide⟩
  · by_cases c0 : j = 126 + 4 * i
    · rw [c0, hw.1]
      show (if f = 2 then some (3, 36 + i) else if f = 3 then some (4, 4 + i) else none) = some q → R2 5 i f = some q
      intro hq
      by_cases e2 : f = 2
      · rw [if_pos e2] at hq; cases hq; rw [e2]; exact h0.1
      · rw [if_neg e2] at hq
        by_cases e3 : f = 3
        · rw [if_pos e3] at hq; cases hq; rw [e3]; exact h0.2
        · rw [if_neg e3] at hq; cases hq
    · by_cases c2 : j = 128 + 4 * i
      · rw [c2, hw.2.2.1]
        show (if f = 2 then some (26, 4 + i) else none) = some q → R2 4 (4 + i) f = some q
        intro hq
        by_cases e2 : f = 2
        · rw [if_pos e2] at hq; cases hq; rw [e2]; exact h4
        · rw [if_neg e2] at hq; cases hq
      · intro hq
        exfalso
        by_cases c1 : j = 127 + 4 * i
        · rw [c1, hw.2.1] at hq
          exact absurd (show Tg 3 (36 + i) f = some q from hq) (by rw [Tg_n (by decide)]; exact fun z => by cases z)
        · rw [show j = 129 + 4 * i by omega, hw.2.2.2] at hq
          exact absurd (show Tg 26 (4 + i) f = some q from hq) (by rw [Tg_n (by decide)]; exact fun z => by cases z)
def P8 (n : Nat) (R : Rt) : Prop := ∀ f q, f < n → Rf 8 0 f = some q → R 8 0 f = some q
theorem P8_s {n : Nat} {R : Rt} {x : Nat × Nat} (h : P8 n R) (hx : Rf 8 0 n = some x) : P8 (n + 1) (sR R 8 0 n (some x)) := fun f q hf hq => by
  by_cases e : f = n
  · rw [e, sR_q, ← hx, ← e]; exact hq
  · rw [sR_k e]; exact h f q (by omega) hq
theorem P8_f {n : Nat} {R R2 : Rt} (h : P8 n R) (e : R2 8 0 = R 8 0) : P8 n R2 := fun f q hf hq => by rw [e]; exact h f q hf hq
theorem c_Pb_init {l : Launch} {E : En} {d : Nat} {R : Rt} {Z : Zt} {Q : Qt} {R0 : Rt} (hZ : Z.2.1 = 1) (hF : Fr R 1) (hV : INV R0 1 R) (hQ : ∀ R2 Z2, Z2.1 = Z.1 → Z2.2.1 = 146 → Z2.2.2 = Z.2.2 + 2343 → Fr R2 146 → INV R0 146 R2 → P8 11 R2 → (∀ j, j < 4 → R2 24 0 j = some (4, j)) → (∀ j, j < 5 → R2 25 0 j = some (5, j)) → Q none (iz 9) lz R2 Z2) : AMet l E (d + 3) M_Pb_init [vr 8 0] (iz 0) lz R Z Q := by
  refine AMet.of mf_Pb_init rfl (Nat.le_of_ble_eq_true rfl) ?_
  refine aw_aload_n e_Pb_init_0 rfl ?_
  refine aw_objInit e_Pb_init_1 ml_Pb_1 oi_i oi_c (by decide) ?_
  have hV0 := hV
  have hF0 := hF
  have hP0 : P8 0 R := fun f q hf => absurd hf (Nat.not_lt_zero f)
  have z10 := hZ
  have z00 : Z.1 = Z.1 := rfl
  have z20 : Z.2.2 = Z.2.2 + 0 := rfl
  refine aw_aload_n e_Pb_init_4 rfl ?_
  refine aw_new 2 0 e_Pb_init_5 cl_Pb_7 in_Ma ii_Ma (by rw [z10]; decide) (fun f => iz_n (by omega)) (hF0.n 1 (by decide) (by decide) (by decide)) (by decide) ?_
  refine aw_dup e_Pb_init_8 rfl ?_
  refine aw_cI0 e_Pb_init_9 ml_Pb_9 mf_Ma_init mi_Ma_init (c_Ma_init (k := 0) (by decide) (by show Z.2.1 + 1 = _; omega) (hF0.m (by decide)) (fun R1 Z1 z0 z1 z2 hFa hfr h0 hp => ?_))
  refine aw_putR e_Pb_init_12 fl_Pb_10 ?_
  have hV1 : INV R0 18 (sR R1 8 0 0 (some (2, 0))) := INV_p (INV_Ma (k := 0) (by decide) hV0 hfr h0 hp) (by decide)
  have hF1 : Fr (sR R1 8 0 0 (some (2, 0))) 18 := Fr.s hFa (by decide)
  have hP1 : P8 1 (sR R1 8 0 0 (some (2, 0))) := P8_s (P8_f hP0 (hfr 8 0 (by decide))) rfl
  generalize (sR R1 8 0 0 (some (2, 0))) = S1 at hV1 hF1 hP1 ⊢
  have z11 : Z1.2.1 = 18 := z1
  have z01 : Z1.1 = Z.1 := z0.trans z00
  have z21 : Z1.2.2 = Z.2.2 + 118 := by rw [z2]; show Z.2.2 + 8 + 110 = _; omega
  clear hfr h0 hp hFa z0 z1 z2 R1
  refine aw_aload_n e_Pb_init_15 rfl ?_
  refine aw_new 2 1 e_Pb_init_16 cl_Pb_7 in_Ma ii_Ma (by rw [z11]; decide) (fun f => iz_n (by omega)) (hF1.n 18 (by decide) (by decide) (by decide)) (by decide) ?_
  refine aw_dup e_Pb_init_19 rfl ?_
  refine aw_cI0 e_Pb_init_20 ml_Pb_9 mf_Ma_init mi_Ma_init (c_Ma_init (k := 1) (by decide) (by show Z1.2.1 + 1 = _; omega) (hF1.m (by decide)) (fun R2 Z2 z0 z1 z2 hFa hfr h0 hp => ?_))
  refine aw_putR e_Pb_init_23 fl_Pb_16 ?_
  have hV2 : INV R0 35 (sR R2 8 0 1 (some (2, 1))) := INV_p (INV_Ma (k := 1) (by decide) hV1 hfr h0 hp) (by decide)
  have hF2 : Fr (sR R2 8 0 1 (some (2, 1))) 35 := Fr.s hFa (by decide)
  have hP2 : P8 2 (sR R2 8 0 1 (some (2, 1))) := P8_s (P8_f hP1 (hfr 8 0 (by decide))) rfl
  generalize (sR R2 8 0 1 (some (2, 1))) = S2 at hV2 hF2 hP2 ⊢
  have z12 : Z2.2.1 = 35 := z1
  have z02 : Z2.1 = Z.1 := z0.trans z01
  have z22 : Z2.2.2 = Z.2.2 + 236 := by rw [z2]; show Z1.2.2 + 8 + 110 = _; omega
  clear hfr h0 hp hFa z0 z1 z2 R2
  refine aw_aload_n e_Pb_init_26 rfl ?_
  refine aw_new 2 2 e_Pb_init_27 cl_Pb_7 in_Ma ii_Ma (by rw [z12]; decide) (fun f => iz_n (by omega)) (hF2.n 35 (by decide) (by decide) (by decide)) (by decide) ?_
  refine aw_dup e_Pb_init_30 rfl ?_
  refine aw_cI0 e_Pb_init_31 ml_Pb_9 mf_Ma_init mi_Ma_init (c_Ma_init (k := 2) (by decide) (by show Z2.2.1 + 1 = _; omega) (hF2.m (by decide)) (fun R3 Z3 z0 z1 z2 hFa hfr h0 hp => ?_))
  refine aw_putR e_Pb_init_34 fl_Pb_19 ?_
  have hV3 : INV R0 52 (sR R3 8 0 2 (some (2, 2))) := INV_p (INV_Ma (k := 2) (by decide) hV2 hfr h0 hp) (by decide)
  have hF3 : Fr (sR R3 8 0 2 (some (2, 2))) 52 := Fr.s hFa (by decide)
  have hP3 : P8 3 (sR R3 8 0 2 (some (2, 2))) := P8_s (P8_f hP2 (hfr 8 0 (by decide))) rfl
  generalize (sR R3 8 0 2 (some (2, 2))) = S3 at hV3 hF3 hP3 ⊢
  have z13 : Z3.2.1 = 52 := z1
  have z03 : Z3.1 = Z.1 := z0.trans z02
  have z23 : Z3.2.2 = Z.2.2 + 354 := by rw [z2]; show Z2.2.2 + 8 + 110 = _; omega
  clear hfr h0 hp hFa z0 z1 z2 R3
  refine aw_aload_n e_Pb_init_37 rfl ?_
  refine aw_new 0 0 e_Pb_init_38 cl_Pb_22 in_An ii_An (by rw [z13]; decide) (fun f => iz_n (by omega)) (hF3.n 52 (by decide) (by decide) (by decide)) (by decide) ?_
  refine aw_dup e_Pb_init_41 rfl ?_
  refine aw_cIN0 e_Pb_init_42 mn_Pb_24 mf_An_init mi_An_init (c_An_init (a := 0) (by decide) (by show Z3.2.1 + 1 = _; omega) (hF3.m (by decide)) hV3.2.2 (fun R4 Z4 z0 z1 z2 hFa hfr h0 hp => ?_))
  refine aw_putR e_Pb_init_45 fl_Pb_25 ?_
  have hV4 : INV R0 80 (sR R4 8 0 3 (some (0, 0))) := INV_p (INV_An (a := 0) (by decide) hV3 hfr h0 hp) (by decide)
  have hF4 : Fr (sR R4 8 0 3 (some (0, 0))) 80 := Fr.s hFa (by decide)
  have hP4 : P8 4 (sR R4 8 0 3 (some (0, 0))) := P8_s (P8_f hP3 (hfr 8 0 (by decide))) rfl
  generalize (sR R4 8 0 3 (some (0, 0))) = S4 at hV4 hF4 hP4 ⊢
  have z14 : Z4.2.1 = 80 := z1
  have z04 : Z4.1 = Z.1 := z0.trans z03
  have z24 : Z4.2.2 = Z.2.2 + 1007 := by rw [z2]; show Z3.2.2 + 5 + 648 = _; omega
  clear hfr h0 hp hFa z0 z1 z2 R4
  refine aw_aload_n e_Pb_init_48 rfl ?_
  refine aw_new 0 1 e_Pb_init_49 cl_Pb_22 in_An ii_An (by rw [z14]; decide) (fun f => iz_n (by omega)) (hF4.n 80 (by decide) (by decide) (by decide)) (by decide) ?_
  refine aw_dup e_Pb_init_52 rfl ?_
  refine aw_cIN0 e_Pb_init_53 mn_Pb_24 mf_An_init mi_An_init (c_An_init (a := 1) (by decide) (by show Z4.2.1 + 1 = _; omega) (hF4.m (by decide)) hV4.2.2 (fun R5 Z5 z0 z1 z2 hFa hfr h0 hp => ?_))
  refine aw_putR e_Pb_init_56 fl_Pb_29 ?_
  have hV5 : INV R0 108 (sR R5 8 0 4 (some (0, 1))) := INV_p (INV_An (a := 1) (by decide) hV4 hfr h0 hp) (by decide)
  have hF5 : Fr (sR R5 8 0 4 (some (0, 1))) 108 := Fr.s hFa (by decide)
  have hP5 : P8 5 (sR R5 8 0 4 (some (0, 1))) := P8_s (P8_f hP4 (hfr 8 0 (by decide))) rfl
  generalize (sR R5 8 0 4 (some (0, 1))) = S5 at hV5 hF5 hP5 ⊢
  have z15 : Z5.2.1 = 108 := z1
  have z05 : Z5.1 = Z.1 := z0.trans z04
  have z25 : Z5.2.2 = Z.2.2 + 1660 := by rw [z2]; show Z4.2.2 + 5 + 648 = _; omega
  clear hfr h0 hp hFa z0 z1 z2 R5
  refine aw_aload_n e_Pb_init_59 rfl ?_
  refine aw_new 1 0 e_Pb_init_60 cl_Pb_32 in_Lu ii_Lu (by rw [z15]; decide) (fun f => iz_n (by omega)) (hF5.n 108 (by decide) (by decide) (by decide)) (by decide) ?_
  refine aw_dup e_Pb_init_63 rfl ?_
  refine aw_cIN0 e_Pb_init_64 mn_Pb_34 mf_Lu_init mi_Lu_init (c_Lu_init (by show Z5.2.1 + 1 = _; omega) (hF5.m (by decide)) (fun R6 Z6 z0 z1 z2 hFa hfr h0 => ?_))
  refine aw_putR e_Pb_init_67 fl_Pb_35 ?_
  have hV6 : INV R0 111 (sR R6 8 0 5 (some (1, 0))) := INV_p (INV_Lu hV5 hfr h0) (by decide)
  have hF6 : Fr (sR R6 8 0 5 (some (1, 0))) 111 := Fr.s hFa (by decide)
  have hP6 : P8 6 (sR R6 8 0 5 (some (1, 0))) := P8_s (P8_f hP5 (hfr 8 0 (by decide))) rfl
  generalize (sR R6 8 0 5 (some (1, 0))) = S6 at hV6 hF6 hP6 ⊢
  have z16 : Z6.2.1 = 111 := z1
  have z06 : Z6.1 = Z.1 := z0.trans z05
  have z26 : Z6.2.2 = Z.2.2 + 1689 := by rw [z2]; show Z5.2.2 + 5 + 24 = _; omega
  clear hfr h0 hFa z0 z1 z2 R6
  refine aw_aload_n e_Pb_init_70 rfl ?_
  refine aw_new 6 0 e_Pb_init_71 cl_Pb_39 in_Ta ii_Ta (by rw [z16]; decide) (fun f => iz_n (by omega)) (hF6.n 111 (by decide) (by decide) (by decide)) (by decide) ?_
  refine aw_dup e_Pb_init_74 rfl ?_
  refine aw_cIN0 e_Pb_init_75 mn_Pb_41 mf_Ta_init mi_Ta_init (c_Ta_init (by show Z6.2.1 + 1 = _; omega) (hF6.m (by decide)) (fun R7 Z7 z0 z1 z2 hFa hfr h0 => ?_))
  refine aw_putR e_Pb_init_78 fl_Pb_42 ?_
  have hV7 : INV R0 114 (sR R7 8 0 6 (some (6, 0))) := INV_p (INV_Ta hV6 hfr h0) (by decide)
  have hF7 : Fr (sR R7 8 0 6 (some (6, 0))) 114 := Fr.s hFa (by decide)
  have hP7 : P8 7 (sR R7 8 0 6 (some (6, 0))) := P8_s (P8_f hP6 (hfr 8 0 (by decide))) rfl
  generalize (sR R7 8 0 6 (some (6, 0))) = S7 at hV7 hF7 hP7 ⊢
  have z17 : Z7.2.1 = 114 := z1
  have z07 : Z7.1 = Z.1 := z0.trans z06
  have z27 : Z7.2.2 = Z.2.2 + 1890 := by rw [z2]; show Z6.2.2 + 9 + 192 = _; omega
  clear hfr h0 hFa z0 z1 z2 R7
  refine aw_aload_n e_Pb_init_81 rfl ?_
  refine aw_bipush (v := nI 96) e_Pb_init_82 (by decide) ?_
  refine aw_newa (len2 := _) 22 0 96 e_Pb_init_84 ac_int rfl (by decide) (by rw [z17]; decide) (fun f => iz_n (by omega)) (fun f => rfl) (hF7.n 114 (by decide) (by decide) (by decide)) rfl (fun _ _ _ => rfl) ?_
  refine aw_putR e_Pb_init_86 fl_Pb_46 ?_
  refine aw_aload_n e_Pb_init_89 rfl ?_
  refine aw_bipush (v := nI 60) e_Pb_init_90 (by decide) ?_
  refine aw_newa (len2 := _) 23 0 60 e_Pb_init_92 ac_int rfl (by decide) (by show who (Z7.2.1 + 1) = _; rw [z17]; decide) (fun f => iz_n (by omega)) (fun f => rfl) (fun f => by rw [sR_n (by omega)]; exact hF7.n 115 (by decide) (by decide) (by decide) f) rfl (fun _ _ _ => rfl) ?_
  refine aw_putR e_Pb_init_94 fl_Pb_50 ?_
  refine aw_aload_n e_Pb_init_97 rfl ?_
  refine aw_iconst (v := nI 4) e_Pb_init_98 (by decide) ?_
  refine aw_anew 24 0 4 e_Pb_init_99 cl_Pb_53 (fun s hs => hs.2.2.1.2.2.1) rfl (by decide) (by show who (Z7.2.1 + 1 + 1) = _; rw [z17]; decide) (fun f => by rw [sR_n (by omega), sR_n (by omega)]; exact hF7.n 116 (by decide) (by decide) (by decide) f) rfl ?_
  refine aw_putR e_Pb_init_102 fl_Pb_55 ?_
  refine aw_aload_n e_Pb_init_105 rfl ?_
  refine aw_iconst (v := nI 5) e_Pb_init_106 (by decide) ?_
  refine aw_anew 25 0 5 e_Pb_init_107 cl_Pb_59 (fun s hs => hs.2.2.1.2.2.2.1) rfl (by decide) (by show who (Z7.2.1 + 1 + 1 + 1) = _; rw [z17]; decide) (fun f => by rw [sR_n (by omega), sR_n (by omega), sR_n (by omega)]; exact hF7.n 117 (by decide) (by decide) (by decide) f) rfl ?_
  refine aw_putR e_Pb_init_110 fl_Pb_61 ?_
  have hP11 : P8 11 (sR (sR (sR (sR S7 8 0 7 (some (22, 0))) 8 0 8 (some (23, 0))) 8 0 9 (some (24, 0))) 8 0 10 (some (25, 0))) := P8_s (P8_s (P8_s (P8_s hP7 rfl) rfl) rfl) rfl
  have hV11 : INV R0 118 (sR (sR (sR (sR S7 8 0 7 (some (22, 0))) 8 0 8 (some (23, 0))) 8 0 9 (some (24, 0))) 8 0 10 (some (25, 0))) := INV_p (INV_p (INV_p (INV_p (INV_ar (INV_ar (INV_ar (INV_ar hV7 (by decide)) (by decide)) (by decide)) (by decide)) (by decide)) (by decide)) (by decide)) (by decide)
  have hF11 : Fr (sR (sR (sR (sR S7 8 0 7 (some (22, 0))) 8 0 8 (some (23, 0))) 8 0 9 (some (24, 0))) 8 0 10 (some (25, 0))) 118 := Fr.s (Fr.s (Fr.s (Fr.s (hF7.m (by decide)) (by decide)) (by decide)) (by decide)) (by decide)
  generalize (sR (sR (sR (sR S7 8 0 7 (some (22, 0))) 8 0 8 (some (23, 0))) 8 0 9 (some (24, 0))) 8 0 10 (some (25, 0))) = S8 at hP11 hV11 hF11 ⊢
  refine aw_iconst (v := nI 0) e_Pb_init_113 (by decide) ?_
  refine aw_ist1 e_Pb_init_114 ?_
  refine up_loop (P := fun i => ∀ (R2 : Rt) (Z2 : Zt), Z2.1 = Z.1 → Z2.2.1 = 118 + 2 * i → Z2.2.2 = Z.2.2 + 2055 + 27 * i → Fr R2 (118 + 2 * i) → INV R0 (118 + 2 * i) R2 → P8 11 R2 → (∀ j, j < i → R2 24 0 j = some (4, j)) → AWq l E (d + 3) M_Pb_init Z 115 [some (vr 8 0), some (vi (nI i))] [] (iz i) lz R2 Z2 Q) (N := 4) (fun i hi ih R2 Z2 z0 z1 z2 hF2 hV2 hP h24 => ?_) 0 (Nat.zero_le _) S8 _ (by exact z07) (by show Z7.2.1 + 1 + 1 + 1 + 1 = _; omega) (by show Z7.2.2 + 96 + 60 + 4 + 5 = _; omega) hF11 hV11 hP11 (fun j hj => absurd hj (Nat.not_lt_zero j))
  refine aw_iload_n e_Pb_init_115 rfl ?_
  refine aw_iconst (v := nI 4) e_Pb_init_116 (by decide) ?_
  refine awN_icmp_ge e_Pb_init_117 (by omega) (by omega) (fun h117 => ?_) (fun h117 => ?_)
  · refine aw_iconst (v := nI 0) e_Pb_init_139 (by decide) ?_
    refine aw_ist1 e_Pb_init_140 ?_
    obtain rfl : i = 4 := by omega
    refine up_loop (P := fun i => ∀ (R2 : Rt) (Z2 : Zt), Z2.1 = Z.1 → Z2.2.1 = 126 + 4 * i → Z2.2.2 = Z.2.2 + 2163 + 36 * i → Fr R2 (126 + 4 * i) → INV R0 (126 + 4 * i) R2 → P8 11 R2 → (∀ j, j < 4 → R2 24 0 j = some (4, j)) → (∀ j, j < i → R2 25 0 j = some (5, j)) → AWq l E (d + 3) M_Pb_init Z 141 [some (vr 8 0), some (vi (nI i))] [] (iz (4 + i)) lz R2 Z2 Q) (N := 5) (fun i hi ih R2 Z2 z0 z1 z2 hF2 hV2 hP h24 h25 => ?_) 0 (Nat.zero_le _) R2 Z2 z0 (by omega) (by omega) (hF2.m (by omega)) hV2 hP h24 (fun j hj => absurd hj (Nat.not_lt_zero j))
    refine aw_iload_n e_Pb_init_141 rfl ?_
    refine aw_iconst (v := nI 5) e_Pb_init_142 (by decide) ?_
    refine awN_icmp_ge e_Pb_init_143 (by omega) (by omega) (fun h143 => ?_) (fun h143 => ?_)
    · obtain rfl : i = 5 := by omega
      exact aw_vret e_Pb_init_165 rfl (hQ R2 Z2 z0 (by omega) (by omega) (hF2.m (by omega)) hV2 hP h24 h25)
    · refine aw_aload_n e_Pb_init_146 rfl ?_
      refine aw_getR e_Pb_init_147 fl_Pb_61 (hP 10 (25, 0) (by decide) rfl) ?_
      refine aw_iload_n e_Pb_init_150 rfl ?_
      refine aw_new 5 i e_Pb_init_151 cl_Pb_59 in_Sl ii_Sl (by rw [z1]; exact (who_L i h143).1) (fun f => iz_n (by omega)) (hF2.n (126 + 4 * i) (by omega) (by omega) (who_L i h143).1) (by decide) ?_
      refine aw_dup e_Pb_init_154 rfl ?_
      refine aw_cIN0 e_Pb_init_155 mn_Pb_66 mf_Sl_init mi_Sl_init (c_Sl_init (i := i) h143 (by show Z2.2.1 + 1 = _; omega) (hF2.m (by omega)) (fun R3 Z3 y0 y1 y2 hF3 hfr3 h53 h43 => ?_))
      refine aw_aast e_Pb_init_158 rfl (show _ < 5 by omega) (by omega) ?_
      refine aw_inc1 e_Pb_init_159 (inc1 _) ?_
      refine aw_goto e_Pb_init_162 ?_
      refine ih h143 _ Z3 (y0.trans z0) (by omega) (by rw [y2]; show Z2.2.2 + 4 + 32 = _; omega) (Fr.s (hF3.m (by omega)) (by show 117 < _; omega)) (INV_p (show INV R0 (126 + 4 * (i + 1)) R3 from (show 126 + 4 * (i + 1) = 130 + 4 * i by omega) ▸ INV_Sl h143 hV2 hfr3 h53 h43) (by decide)) (P8_f hP (by rw [sR_n (by omega), hfr3 8 0 (by omega)])) (fun j hj => by rw [sR_n (by omega), hfr3 24 0 (by omega)]; exact h24 j hj) (fun j hj => ?_)
      by_cases e : j = i
      · rw [e, sR_q]
      · rw [sR_k e, hfr3 25 0 (by omega)]; exact h25 j (by omega)
  · refine aw_aload_n e_Pb_init_120 rfl ?_
    refine aw_getR e_Pb_init_121 fl_Pb_55 (hP 9 (24, 0) (by decide) rfl) ?_
    refine aw_iload_n e_Pb_init_124 rfl ?_
    refine aw_new 4 i e_Pb_init_125 cl_Pb_53 in_Sh ii_Sh (by rw [z1]; exact (who_H i h117).1) (fun f => iz_n (by omega)) (hF2.n (118 + 2 * i) (by omega) (by omega) (who_H i h117).1) (by decide) ?_
    refine aw_dup e_Pb_init_128 rfl ?_
    refine aw_cIN0 e_Pb_init_129 mn_Pb_65 mf_Sh_init mi_Sh_init (c_Sh_init (c := 119 + 2 * i) (by show Z2.2.1 + 1 = _; omega) (who_H i h117).2 (by omega) (hF2.m (by omega)) (by show (if i < 4 then 118 + 2 * i else _) < _; rw [if_pos h117]; omega) (fun R3 Z3 y0 y1 y2 hF3 hfr3 h43 => ?_))
    refine aw_aast e_Pb_init_132 rfl (show _ < 4 by omega) (by omega) ?_
    refine aw_inc1 e_Pb_init_133 (inc1 _) ?_
    refine aw_goto e_Pb_init_136 ?_
    refine ih h117 _ Z3 (y0.trans z0) (by omega) (by rw [y2]; show Z2.2.2 + 3 + 24 = _; omega) (Fr.s (hF3.m (by omega)) (by show 116 < _; omega)) (INV_p (show INV R0 (118 + 2 * i + 2) R3 from INV_Sh (by omega) hV2 (who_H i h117).1 (by rw [show 118 + 2 * i + 1 = 119 + 2 * i by omega]; exact (who_H i h117).2) hfr3 h43) (by decide)) (P8_f hP (by rw [sR_n (by omega), hfr3 8 0 (by omega)])) (fun j hj => ?_)
    by_cases e : j = i
    · rw [e, sR_q]
    · rw [sR_k e, hfr3 24 0 (by omega)]; exact h24 j (by omega)
