/-! ===== making the objects, 1 ===== -/
def iz (n : Nat) : It := fun t i f => if t = 4 ∧ i < n ∧ f = 0 then -1 else 0
def lz : Lt := fun _ _ _ => 0
theorem iz_n {n t i f : Nat} (h : ¬ (t = 4 ∧ i < n)) : iz n t i f = 0 := if_neg (fun z => h ⟨z.1, z.2.1⟩)
theorem iz_s (n : Nat) : sI (iz n) 4 n 0 (-1) = iz (n + 1) := by
  funext t i f
  unfold sI iz
  by_cases h : t = 4 ∧ i = n
  · rw [if_pos h]
    by_cases h0 : f = 0
    · rw [if_pos h0, if_pos ⟨h.1, by omega, h0⟩]
    · rw [if_neg h0, if_neg (fun z => h0 z.2.2), if_neg (fun z => h0 z.2.2)]
  · rw [if_neg h]
    by_cases h2 : t = 4 ∧ i < n ∧ f = 0
    · rw [if_pos h2, if_pos ⟨h2.1, by omega, h2.2.2⟩]
    · rw [if_neg h2, if_neg (fun z => h2 ⟨z.1, by omega, z.2.2⟩)]
theorem iz_5 (n i : Nat) : sI (iz n) 5 i 0 (nI 0) = iz n := by
  funext t j f
  unfold sI
  by_cases h : t = 5 ∧ j = i
  · rw [if_pos h]
    by_cases h0 : f = 0
    · rw [if_pos h0, iz_n (by omega)]; rfl
    · rw [if_neg h0]
  · rw [if_neg h]
/-- cells not made yet hold no reference -/
def Fr (R : Rt) (n : Nat) : Prop := ∀ c, n ≤ c → c < 168 → ∀ f, R (who c).1 (who c).2 f = none
theorem Fr.m {R : Rt} {n m : Nat} (h : Fr R n) (hm : n ≤ m) : Fr R m := fun c h1 h2 => h c (by omega) h2
theorem Fr.s {R : Rt} {n t i f : Nat} {x : Option (Nat × Nat)} (h : Fr R n) (ha : adr t i < n) : Fr (sR R t i f x) n := fun c h1 h2 g => by
  rw [sR_n (fun z => by have := (adr_who_s c h2).1; rw [z.1, z.2] at this; omega)]
  exact h c h1 h2 g
theorem Fr.n {R : Rt} {n t i : Nat} (h : Fr R n) (c : Nat) (h1 : n ≤ c) (h2 : c < 168) (hw : who c = (t, i)) : ∀ f, R t i f = none := fun f => by
  have := h c h1 h2 f
  rw [hw] at this
  exact this
theorem who_M : ∀ k, k < 3 → who (1 + 17 * k) = (2, k) ∧ who (2 + 17 * k) = (10, k) ∧ who (3 + 17 * k) = (11, k) ∧ who (4 + 17 * k) = (12, k) ∧ who (5 + 17 * k) = (13, k) ∧ ∀ j, j < 12 → who (6 + 17 * k + j) = (3, 12 * k + j) := by decide
theorem who_A : ∀ a, a < 2 → who (52 + 28 * a) = (0, a) ∧ who (53 + 28 * a) = (14, a) ∧ who (54 + 28 * a) = (15, a) ∧ who (55 + 28 * a) = (16, a) ∧ ∀ j, j < 24 → who (56 + 28 * a + j) = (17, 24 * a + j) := by decide
theorem who_H : ∀ i, i < 4 → who (118 + 2 * i) = (4, i) ∧ who (119 + 2 * i) = (26, i) := by decide
theorem who_L : ∀ i, i < 5 → who (126 + 4 * i) = (5, i) ∧ who (127 + 4 * i) = (3, 36 + i) ∧ who (128 + 4 * i) = (4, 4 + i) ∧ who (129 + 4 * i) = (26, 4 + i) := by decide
theorem sR_q (R : Rt) (t i k : Nat) (x : Option (Nat × Nat)) : sR R t i k x t i k = x := by rw [sR_s]; exact up_s _ _ _
theorem sR_k {R : Rt} {t i k k2 : Nat} {x : Option (Nat × Nat)} (h : ¬ k2 = k) : sR R t i k x t i k2 = R t i k2 := by rw [sR_s]; exact up_n h
theorem c_Pa_init {l : Launch} {E : En} {d : Nat} {I : It} {L : Lt} {R : Rt} {Z : Zt} {Q : Qt} {i : Nat} (hQ : Q none I L R Z) : AMet l E (d + 1) M_Pa_init [vr 3 i] I L R Z Q := by
  refine AMet.of mf_Pa_init rfl (Nat.le_of_ble_eq_true rfl) ?_
  refine aw_aload_n e_Pa_init_0 rfl ?_
  refine aw_objInit e_Pa_init_1 ml_Pa_3 oi_i oi_c (by decide) ?_
  exact aw_vret e_Pa_init_4 rfl hQ
theorem c_Ma_init {l : Launch} {E : En} {d : Nat} {R : Rt} {Z : Zt} {Q : Qt} {n k : Nat} (hk : k < 3) (hZ : Z.2.1 = 2 + 17 * k) (hF : Fr R (2 + 17 * k)) (hQ : ∀ R2 Z2, Z2.1 = Z.1 → Z2.2.1 = 18 + 17 * k → Z2.2.2 = Z.2.2 + 110 → Fr R2 (18 + 17 * k) → (∀ t i, ¬ ((t = 2 ∨ t = 10) ∧ i = k) → R2 t i = R t i) → (R2 2 k 0 = some (10, k) ∧ R2 2 k 1 = some (11, k) ∧ R2 2 k 2 = some (12, k) ∧ R2 2 k 3 = some (13, k)) → (∀ q, q < 12 → R2 10 k q = some (3, 12 * k + q)) → Q none (iz n) lz R2 Z2) : AMet l E (d + 2) M_Ma_init [vr 2 k] (iz n) lz R Z Q := by
  have hw := who_M k hk
  refine AMet.of mf_Ma_init rfl (Nat.le_of_ble_eq_true rfl) ?_
  refine aw_aload_n e_Ma_init_0 rfl ?_
  refine aw_objInit e_Ma_init_1 ml_Ma_3 oi_i oi_c (by decide) ?_
  refine aw_aload_n e_Ma_init_4 rfl ?_
  refine aw_bipush (v := nI 12) e_Ma_init_5 (by decide) ?_
  refine aw_anew 10 k 12 e_Ma_init_7 cl_Ma_9 (fun s hs => hs.2.2.1.1) rfl (by decide) (by show who (Z.2.1 + 0) = _; rw [hZ, show 2 + 17 * k + 0 = 2 + 17 * k by omega]; exact hw.2.1) (fun f => by exact hF.n (2 + 17 * k) (by omega) (by omega) hw.2.1 f) rfl ?_
  refine aw_putR e_Ma_init_10 fl_Ma_11 ?_
  refine aw_aload_n e_Ma_init_13 rfl ?_
  refine aw_bipush (v := nI 12) e_Ma_init_14 (by decide) ?_
  refine aw_newa (len2 := _) 11 k 12 e_Ma_init_16 ac_int rfl (by decide) (by show who (Z.2.1 + 1) = _; rw [hZ, show 2 + 17 * k + 1 = 3 + 17 * k by omega]; exact hw.2.2.1) (fun f => iz_n (by omega)) (fun f => rfl) (fun f => by rw [sR_n (by omega)]; exact hF.n (3 + 17 * k) (by omega) (by omega) hw.2.2.1 f) rfl (fun _ _ _ => rfl) ?_
  refine aw_putR e_Ma_init_18 fl_Ma_17 ?_
  refine aw_aload_n e_Ma_init_21 rfl ?_
  refine aw_bipush (v := nI 12) e_Ma_init_22 (by decide) ?_
  refine aw_newa (len2 := _) 12 k 12 e_Ma_init_24 ac_int rfl (by decide) (by show who (Z.2.1 + 2) = _; rw [hZ, show 2 + 17 * k + 2 = 4 + 17 * k by omega]; exact hw.2.2.2.1) (fun f => iz_n (by omega)) (fun f => rfl) (fun f => by rw [sR_n (by omega)]; rw [sR_n (by omega)]; exact hF.n (4 + 17 * k) (by omega) (by omega) hw.2.2.2.1 f) rfl (fun _ _ _ => rfl) ?_
  refine aw_putR e_Ma_init_26 fl_Ma_21 ?_
  refine aw_aload_n e_Ma_init_29 rfl ?_
  refine aw_bipush (v := nI 14) e_Ma_init_30 (by decide) ?_
  refine aw_anew 13 k 14 e_Ma_init_32 cl_Ma_24 (fun s hs => hs.2.2.1.2.1) rfl (by decide) (by show who (Z.2.1 + 3) = _; rw [hZ, show 2 + 17 * k + 3 = 5 + 17 * k by omega]; exact hw.2.2.2.2.1) (fun f => by rw [sR_n (by omega)]; rw [sR_n (by omega)]; rw [sR_n (by omega)]; exact hF.n (5 + 17 * k) (by omega) (by omega) hw.2.2.2.2.1 f) rfl ?_
  refine aw_putR e_Ma_init_35 fl_Ma_26 ?_
  refine aw_iconst (v := nI 0) e_Ma_init_38 (by decide) ?_
  refine aw_ist1 e_Ma_init_39 ?_
  refine up_loop (P := fun j => ∀ (R2 : Rt) (Z2 : Zt), Z2.1 = Z.1 → Z2.2.1 = 6 + 17 * k + j → Z2.2.2 = Z.2.2 + 50 + 5 * j → Fr R2 (6 + 17 * k + j) → (∀ t i, ¬ ((t = 2 ∨ t = 10) ∧ i = k) → R2 t i = R t i) → (R2 2 k 0 = some (10, k) ∧ R2 2 k 1 = some (11, k) ∧ R2 2 k 2 = some (12, k) ∧ R2 2 k 3 = some (13, k)) → (∀ q, q < j → R2 10 k q = some (3, 12 * k + q)) → AWq l E (d + 2) M_Ma_init Z 40 [some (vr 2 k), some (vi (nI j))] [] (iz n) lz R2 Z2 Q) (N := 12) (fun j hj ih R2 Z2 z0 z1 z2 hF2 hfr h0 hp => ?_) 0 (Nat.zero_le _) (sR (sR (sR (sR R 2 k 0 (some (10, k))) 2 k 1 (some (11, k))) 2 k 2 (some (12, k))) 2 k 3 (some (13, k))) _ rfl (by show Z.2.1 + 1 + 1 + 1 + 1 = _; omega) (by show Z.2.2 + 12 + 12 + 12 + 14 = _; omega) ?_ (fun t i h => by rw [sR_n (by omega), sR_n (by omega), sR_n (by omega), sR_n (by omega)]) ⟨by rw [sR_k (by decide), sR_k (by decide), sR_k (by decide), sR_q], by rw [sR_k (by decide), sR_k (by decide), sR_q], by rw [sR_k (by decide), sR_q], sR_q _ _ _ _ _⟩ (fun j hj => absurd hj (Nat.not_lt_zero j))
  rotate_left
  · exact (Fr.s (Fr.s (Fr.s (Fr.s (hF.m (by omega)) (by show 1 + 17 * k < _; omega)) (by show 1 + 17 * k < _; omega)) (by show 1 + 17 * k < _; omega)) (by show 1 + 17 * k < _; omega))
  refine aw_iload_n e_Ma_init_40 rfl ?_
  refine aw_bipush (v := nI 12) e_Ma_init_41 (by decide) ?_
  refine awN_icmp_ge e_Ma_init_43 (by omega) (by omega) (fun h43 => ?_) (fun h43 => ?_)
  · obtain rfl : j = 12 := by omega
    exact aw_vret e_Ma_init_65 rfl (hQ R2 Z2 z0 (by omega) (by omega) (hF2.m (by omega)) hfr h0 hp)
  · refine aw_aload_n e_Ma_init_46 rfl ?_
    refine aw_getR e_Ma_init_47 fl_Ma_11 h0.1 ?_
    refine aw_iload_n e_Ma_init_50 rfl ?_
    refine aw_new 3 (12 * k + j) e_Ma_init_51 cl_Ma_9 in_Pa ii_Pa (by rw [z1]; exact hw.2.2.2.2.2 j h43) (fun f => iz_n (by omega)) (hF2.n (6 + 17 * k + j) (by omega) (by omega) (hw.2.2.2.2.2 j h43)) (by decide) ?_
    refine aw_dup e_Ma_init_54 rfl ?_
    refine aw_cIN0 e_Ma_init_55 mn_Ma_30 mf_Pa_init mi_Pa_init (c_Pa_init ?_)
    refine aw_aast e_Ma_init_58 rfl (show _ < 12 by omega) (by omega) ?_
    refine aw_inc1 e_Ma_init_59 (inc1 _) ?_
    refine aw_goto e_Ma_init_62 ?_
    refine ih h43 _ _ (by exact z0) (by show Z2.2.1 + 1 = _; omega) (by show Z2.2.2 + nf 3 = _; rw [z2]; show _ + 5 = _; omega) (Fr.s (hF2.m (by omega)) (by show 2 + 17 * k < _; omega)) (fun t i h => by rw [sR_n (by omega)]; exact hfr t i h) ⟨by rw [sR_n (by omega)]; exact h0.1, by rw [sR_n (by omega)]; exact h0.2.1, by rw [sR_n (by omega)]; exact h0.2.2.1, by rw [sR_n (by omega)]; exact h0.2.2.2⟩ (fun i hi => ?_)
    by_cases e : i = j
    · rw [e, sR_q]
    · rw [sR_k e]; exact hp i (by omega)
theorem c_An_init {l : Launch} {E : En} {d : Nat} {R : Rt} {Z : Zt} {Q : Qt} {n a : Nat} (ha : a < 2) (hZ : Z.2.1 = 53 + 28 * a) (hF : Fr R (53 + 28 * a)) (h17 : ∀ j f, R 17 j f = none) (hQ : ∀ R2 Z2, Z2.1 = Z.1 → Z2.2.1 = 80 + 28 * a → Z2.2.2 = Z.2.2 + 648 → Fr R2 (80 + 28 * a) → (∀ t i, ¬ ((t = 0 ∨ t = 16) ∧ i = a) → R2 t i = R t i) → (R2 0 a 0 = some (14, a) ∧ R2 0 a 1 = some (15, a) ∧ R2 0 a 2 = some (16, a)) → (∀ r, r < 24 → R2 16 a r = some (17, 24 * a + r)) → Q none (iz n) lz R2 Z2) : AMet l E (d + 1) M_An_init [vr 0 a] (iz n) lz R Z Q := by
  have hw := who_A a ha
  refine AMet.of mf_An_init rfl (Nat.le_of_ble_eq_true rfl) ?_
  refine aw_aload_n e_An_init_0 rfl ?_
  refine aw_objInit e_An_init_1 ml_An_3 oi_i oi_c (by decide) ?_
  refine aw_aload_n e_An_init_4 rfl ?_
  refine aw_bipush (v := nI 12) e_An_init_5 (by decide) ?_
  refine aw_newa (len2 := _) 14 a 12 e_An_init_7 ac_int rfl (by decide) (by show who (Z.2.1 + 0) = _; rw [hZ, show 53 + 28 * a + 0 = 53 + 28 * a by omega]; exact hw.2.1) (fun f => iz_n (by omega)) (fun f => rfl) (hF.n (53 + 28 * a) (by omega) (by omega) hw.2.1) rfl (fun _ _ _ => rfl) ?_
  refine aw_putR e_An_init_9 fl_An_9 ?_
  refine aw_aload_n e_An_init_12 rfl ?_
  refine aw_bipush (v := nI 12) e_An_init_13 (by decide) ?_
  refine aw_newa (len2 := _) 15 a 12 e_An_init_15 ac_int rfl (by decide) (by show who (Z.2.1 + 1) = _; rw [hZ, show 53 + 28 * a + 1 = 54 + 28 * a by omega]; exact hw.2.2.1) (fun f => iz_n (by omega)) (fun f => rfl) (fun f => by rw [sR_n (by omega)]; exact hF.n (54 + 28 * a) (by omega) (by omega) hw.2.2.1 f) rfl (fun _ _ _ => rfl) ?_
  refine aw_putR e_An_init_17 fl_An_15 ?_
  refine aw_aload_n e_An_init_20 rfl ?_
  refine aw_bipush (v := nI 24) e_An_init_21 (by decide) ?_
  refine aw_bipush (v := nI 25) e_An_init_23 (by decide) ?_
  refine aw_mna a e_An_init_25 cl_An_18 ac_long (by show who (Z.2.1 + 2) = _; rw [hZ, show 53 + 28 * a + 2 = 55 + 28 * a by omega]; exact hw.2.2.2.1) (fun j hj => by show who (Z.2.1 + 1 + 1 + 1 + j) = _; rw [hZ, show 53 + 28 * a + 1 + 1 + 1 + j = 56 + 28 * a + j by omega]; exact hw.2.2.2.2 j hj) (fun _ _ _ => rfl) (fun j f => by rw [sR_n (by omega), sR_n (by omega)]; exact h17 j f) ?_
  refine aw_putR e_An_init_29 fl_An_20 ?_
  refine aw_vret e_An_init_32 rfl (hQ _ _ rfl (by show Z.2.1 + 1 + 1 + 25 = _; omega) (by show Z.2.2 + 12 + 12 + 624 = _; omega) ?_ (fun t i h => ?_) ⟨?_, ?_, ?_⟩ (fun r hr => ?_))
  · refine Fr.s ?_ (by show 52 + 28 * a < _; omega)
    intro c h1 h2 f
    have hc := (adr_who_s c h2).1
    have e16 : ¬ ((who c).1 = 16 ∧ (who c).2 = a) := fun z => by rw [z.1, z.2] at hc; have : 55 + 28 * a = c := hc; omega
    show (if (who c).1 = 16 ∧ (who c).2 = a then _ else sR (sR R 0 a 0 (some (14, a))) 0 a 1 (some (15, a)) (who c).1 (who c).2 f) = none
    rw [if_neg e16]
    exact (Fr.s (Fr.s (hF.m (show 53 + 28 * a ≤ 80 + 28 * a by omega)) (by show 52 + 28 * a < _; omega)) (by show 52 + 28 * a < _; omega)) c h1 h2 f
  · rw [sR_n (by omega)]
    funext f
    show (if t = 16 ∧ i = a then _ else sR (sR R 0 a 0 (some (14, a))) 0 a 1 (some (15, a)) t i f) = R t i f
    rw [if_neg (by omega), sR_n (by omega), sR_n (by omega)]
  · rw [sR_k (by decide)]
    show sR (sR R 0 a 0 (some (14, a))) 0 a 1 (some (15, a)) 0 a 0 = _
    rw [sR_k (by decide), sR_q]
  · rw [sR_k (by decide)]
    show sR (sR R 0 a 0 (some (14, a))) 0 a 1 (some (15, a)) 0 a 1 = _
    rw [sR_q]
  · rw [sR_q]
  · rw [sR_n (by omega)]
    show (if 16 = 16 ∧ a = a then (if r < 24 then some (17, 24 * a + r) else none) else _) = _
    rw [if_pos ⟨rfl, rfl⟩, if_pos hr]
theorem c_Lu_init {l : Launch} {E : En} {d : Nat} {R : Rt} {Z : Zt} {Q : Qt} {n : Nat} (hZ : Z.2.1 = 109) (hF : Fr R 109) (hQ : ∀ R2 Z2, Z2.1 = Z.1 → Z2.2.1 = 111 → Z2.2.2 = Z.2.2 + 24 → Fr R2 (111) → (∀ t i, ¬ (t = 1 ∧ i = 0) → R2 t i = R t i) → (R2 1 0 0 = some (18, 0) ∧ R2 1 0 1 = some (19, 0)) → Q none (iz n) lz R2 Z2) : AMet l E (d + 1) M_Lu_init [vr 1 0] (iz n) lz R Z Q := by
  refine AMet.of mf_Lu_init rfl (Nat.le_of_ble_eq_true rfl) ?_
  refine aw_aload_n e_Lu_init_0 rfl ?_
  refine aw_objInit e_Lu_init_1 ml_Lu_3 oi_i oi_c (by decide) ?_
  refine aw_aload_n e_Lu_init_4 rfl ?_
  refine aw_bipush (v := nI 12) e_Lu_init_5 (by decide) ?_
  refine aw_newa (len2 := _) 18 0 12 e_Lu_init_7 ac_int rfl (by decide) (by rw [hZ]; decide) (fun f => iz_n (by omega)) (fun f => rfl) (hF.n 109 (by omega) (by omega) (by decide)) rfl (fun _ _ _ => rfl) ?_
  refine aw_putR e_Lu_init_9 fl_Lu_9 ?_
  refine aw_aload_n e_Lu_init_12 rfl ?_
  refine aw_bipush (v := nI 12) e_Lu_init_13 (by decide) ?_
  refine aw_newa (len2 := _) 19 0 12 e_Lu_init_15 ac_int rfl (by decide) (by show who (Z.2.1 + 1) = _; rw [hZ]; decide) (fun f => iz_n (by omega)) (fun f => rfl) (fun f => by rw [sR_n (by omega)]; exact hF.n 110 (by omega) (by omega) (by decide) f) rfl (fun _ _ _ => rfl) ?_
  refine aw_putR e_Lu_init_17 fl_Lu_15 ?_
  exact aw_vret e_Lu_init_20 rfl (hQ _ _ rfl (by show Z.2.1 + 1 + 1 = _; omega) (by show Z.2.2 + 12 + 12 = _; omega) (Fr.s (Fr.s (hF.m (by omega)) (by decide)) (by decide)) (fun t i h => by rw [sR_n h, sR_n h]) ⟨by rw [sR_k (by decide), sR_q], sR_q _ _ _ _ _⟩)
theorem c_Ta_init {l : Launch} {E : En} {d : Nat} {R : Rt} {Z : Zt} {Q : Qt} {n : Nat} (hZ : Z.2.1 = 112) (hF : Fr R 112) (hQ : ∀ R2 Z2, Z2.1 = Z.1 → Z2.2.1 = 114 → Z2.2.2 = Z.2.2 + 192 → Fr R2 (114) → (∀ t i, ¬ (t = 6 ∧ i = 0) → R2 t i = R t i) → (R2 6 0 2 = some (20, 0) ∧ R2 6 0 6 = some (21, 0)) → Q none (iz n) lz R2 Z2) : AMet l E (d + 1) M_Ta_init [vr 6 0] (iz n) lz R Z Q := by
  refine AMet.of mf_Ta_init rfl (Nat.le_of_ble_eq_true rfl) ?_
  refine aw_aload_n e_Ta_init_0 rfl ?_
  refine aw_objInit e_Ta_init_1 ml_Ta_3 oi_i oi_c (by decide) ?_
  refine aw_aload_n e_Ta_init_4 rfl ?_
  refine aw_bipush (v := nI 96) e_Ta_init_5 (by decide) ?_
  refine aw_newa (len2 := _) 20 0 96 e_Ta_init_7 ac_byte rfl (by decide) (by rw [hZ]; decide) (fun f => iz_n (by omega)) (fun f => rfl) (hF.n 112 (by omega) (by omega) (by decide)) rfl (fun _ _ _ => rfl) ?_
  refine aw_putR e_Ta_init_9 fl_Ta_9 ?_
  refine aw_aload_n e_Ta_init_12 rfl ?_
  refine aw_bipush (v := nI 96) e_Ta_init_13 (by decide) ?_
  refine aw_newa (len2 := _) 21 0 96 e_Ta_init_15 ac_int rfl (by decide) (by show who (Z.2.1 + 1) = _; rw [hZ]; decide) (fun f => iz_n (by omega)) (fun f => rfl) (fun f => by rw [sR_n (by omega)]; exact hF.n 113 (by omega) (by omega) (by decide) f) rfl (fun _ _ _ => rfl) ?_
  refine aw_putR e_Ta_init_17 fl_Ta_15 ?_
  exact aw_vret e_Ta_init_20 rfl (hQ _ _ rfl (by show Z.2.1 + 1 + 1 = _; omega) (by show Z.2.2 + 96 + 96 = _; omega) (Fr.s (Fr.s (hF.m (by omega)) (by decide)) (by decide)) (fun t i h => by rw [sR_n h, sR_n h]) ⟨by rw [sR_k (by decide), sR_q], sR_q _ _ _ _ _⟩)
theorem c_Sh_init {l : Launch} {E : En} {d : Nat} {R : Rt} {Z : Zt} {Q : Qt} {c n : Nat} (hZ : Z.2.1 = c) (hw : who c = (26, n)) (hc : c < 168) (hF : Fr R c) (hs : adr 4 n < c) (hQ : ∀ R2 Z2, Z2.1 = Z.1 → Z2.2.1 = c + 1 → Z2.2.2 = Z.2.2 + 24 → Fr R2 (c + 1) → (∀ t i, ¬ (t = 4 ∧ i = n) → R2 t i = R t i) → R2 4 n 2 = some (26, n) → Q none (iz (n + 1)) lz R2 Z2) : AMet l E (d + 1) M_Sh_init [vr 4 n] (iz n) lz R Z Q := by
  refine AMet.of mf_Sh_init rfl (Nat.le_of_ble_eq_true rfl) ?_
  refine aw_aload_n e_Sh_init_0 rfl ?_
  refine aw_objInit e_Sh_init_1 ml_Sh_3 oi_i oi_c (by decide) ?_
  refine aw_aload_n e_Sh_init_4 rfl ?_
  refine aw_iconst (v := -1) e_Sh_init_5 (by decide) ?_
  refine aw_putI e_Sh_init_6 fl_Sh_9 ?_
  rw [iz_s]
  refine aw_aload_n e_Sh_init_9 rfl ?_
  refine aw_bipush (v := nI 24) e_Sh_init_10 (by decide) ?_
  refine aw_newa (len2 := _) 26 n 24 e_Sh_init_12 ac_int rfl (by decide) (by rw [hZ]; exact hw) (fun f => iz_n (by omega)) (fun f => rfl) (hF.n c (by omega) hc hw) rfl (fun _ _ _ => rfl) ?_
  refine aw_putR e_Sh_init_14 fl_Sh_15 ?_
  exact aw_vret e_Sh_init_17 rfl (hQ _ _ rfl (by show Z.2.1 + 1 = _; omega) (by show Z.2.2 + 24 = _; omega) (Fr.s (hF.m (by omega)) (by omega)) (fun t i h => sR_n h) (sR_q _ _ _ _ _))
theorem c_Sl_init {l : Launch} {E : En} {d : Nat} {R : Rt} {Z : Zt} {Q : Qt} {i : Nat} (hi : i < 5) (hZ : Z.2.1 = 127 + 4 * i) (hF : Fr R (127 + 4 * i)) (hQ : ∀ R2 Z2, Z2.1 = Z.1 → Z2.2.1 = 130 + 4 * i → Z2.2.2 = Z.2.2 + 32 → Fr R2 (130 + 4 * i) → (∀ t j, ¬ ((t = 5 ∧ j = i) ∨ (t = 4 ∧ j = 4 + i)) → R2 t j = R t j) → (R2 5 i 2 = some (3, 36 + i) ∧ R2 5 i 3 = some (4, 4 + i)) → R2 4 (4 + i) 2 = some (26, 4 + i) → Q none (iz (4 + i + 1)) lz R2 Z2) : AMet l E (d + 2) M_Sl_init [vr 5 i] (iz (4 + i)) lz R Z Q := by
  have hw := who_L i hi
  refine AMet.of mf_Sl_init rfl (Nat.le_of_ble_eq_true rfl) ?_
  refine aw_aload_n e_Sl_init_0 rfl ?_
  refine aw_objInit e_Sl_init_1 ml_Sl_3 oi_i oi_c (by decide) ?_
  refine aw_aload_n e_Sl_init_4 rfl ?_
  refine aw_iconst (v := nI 0) e_Sl_init_5 (by decide) ?_
  refine aw_putI e_Sl_init_6 fl_Sl_9 ?_
  rw [iz_5]
  refine aw_aload_n e_Sl_init_9 rfl ?_
  refine aw_new 3 (36 + i) e_Sl_init_10 cl_Sl_15 in_Pa ii_Pa (by rw [hZ]; exact hw.2.1) (fun f => iz_n (by omega)) (hF.n (127 + 4 * i) (by omega) (by omega) hw.2.1) (by decide) ?_
  refine aw_dup e_Sl_init_13 rfl ?_
  refine aw_cIN0 e_Sl_init_14 mn_Sl_17 mf_Pa_init mi_Pa_init (c_Pa_init ?_)
  refine aw_putR e_Sl_init_17 fl_Sl_18 ?_
  refine aw_aload_n e_Sl_init_20 rfl ?_
  refine aw_new 4 (4 + i) e_Sl_init_21 cl_Sl_22 in_Sh ii_Sh (by show who (Z.2.1 + 1) = _; rw [hZ, show 127 + 4 * i + 1 = 128 + 4 * i by omega]; exact hw.2.2.1) (fun f => iz_n (by omega)) (fun f => by rw [sR_n (by omega)]; exact hF.n (128 + 4 * i) (by omega) (by omega) hw.2.2.1 f) (by decide) ?_
  refine aw_dup e_Sl_init_24 rfl ?_
  refine aw_cIN0 e_Sl_init_25 mn_Sl_24 mf_Sh_init mi_Sh_init (c_Sh_init (c := 129 + 4 * i) (by show Z.2.1 + 1 + 1 = _; omega) hw.2.2.2 (by omega) (Fr.s (hF.m (by omega)) (by show 126 + 4 * i < _; omega)) (by show (if 4 + i < 4 then _ else 128 + 4 * (4 + i - 4)) < _; rw [if_neg (by omega)]; omega) (fun R2 Z2 z0 z1 z2 hF2 hfr2 h42 => ?_))
  refine aw_putR e_Sl_init_28 fl_Sl_25 ?_
  exact aw_vret e_Sl_init_31 rfl (hQ _ Z2 z0 (by omega) (by rw [z2]; show Z.2.2 + 5 + 3 + 24 = _; omega) (Fr.s (hF2.m (by omega)) (by show 126 + 4 * i < _; omega)) (fun t j h => by rw [sR_n (by omega), hfr2 t j (by omega), sR_n (by omega)]) ⟨by rw [sR_k (by decide), hfr2 5 i (by omega), sR_q], sR_q _ _ _ _ _⟩ (by rw [sR_n (by omega)]; exact h42))
