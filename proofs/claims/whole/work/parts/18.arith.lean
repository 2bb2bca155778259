theorem str_loop {P : Nat → Prop} (h : ∀ e, (∀ e2, e2 < e → P e2) → P e) : ∀ e, P e := fun e => Nat.strongRecOn e h
/-- the power of a worth that is its inverse -/
def ivP (w : Nat) : Nat := w ^ 1000001 % 1000003
theorem ivP_lt (w : Nat) : ivP w < 1000003 := Nat.mod_lt _ (by decide)
theorem iv_odd {r q e w : Nat} (h : r * q ^ e % 1000003 = w) (he : e % 2 = 1) : (r * q % 1000003) * (q * q % 1000003) ^ (e / 2) % 1000003 = w := by
  rw [← h, Nat.mul_mod, Nat.mod_mod, Nat.pow_mod (q * q % 1000003), Nat.mod_mod, ← Nat.pow_mod, ← Nat.mul_mod]
  congr 1
  have e1 : e = 2 * (e / 2) + 1 := by omega
  rw [Nat.mul_assoc]
  congr 1
  conv => rhs; rw [e1, Nat.pow_succ, Nat.pow_mul]
  rw [Nat.mul_comm, Nat.pow_two]
theorem iv_even {r q e w : Nat} (h : r * q ^ e % 1000003 = w) (he : e % 2 = 0) : r * (q * q % 1000003) ^ (e / 2) % 1000003 = w := by
  rw [← h, Nat.mul_mod, Nat.pow_mod (q * q % 1000003), Nat.mod_mod, ← Nat.pow_mod, ← Nat.mul_mod]
  congr 2
  have e1 : e = 2 * (e / 2) := by omega
  conv => rhs; rw [e1, Nat.pow_mul]
  rw [Nat.pow_two]
theorem mulP {a b : Nat} (ha : a < 1000003) (hb : b < 1000003) : a * b < 1000006000009 := by
  have := Nat.mul_le_mul (Nat.le_of_lt_succ ha) (Nat.le_of_lt_succ hb)
  omega
theorem modP (a : Nat) : a % 1000003 < 1000003 := Nat.mod_lt _ (by decide)
theorem c_Jm_floorMod {l : Launch} {E : En} {d : Nat} {I : It} {L : Lt} {R : Rt} {Z : Zt} {Q : Qt} {x : Int32} (hQ : Q (some (vi (nI (wof x.toInt)))) I L R Z) : AMet l E d M_Jm_floorMod [vi x, vi (nI 1000003)] I L R Z Q := by
  have h0 : (nI 1000003).toInt = 1000003 := nT (by decide)
  have hr := i_rem (x := x) (y := nI 1000003) (by rw [h0]; decide)
  rw [h0] at hr
  have hx := i_xneg (x := x) (y := nI 1000003) (by rw [h0]; decide)
  obtain ⟨t1, t2, t3, t4, t5⟩ := tdv x.toInt 1000003 (by decide)
  have hw := wof_tmod x.toInt
  have hwl := wof_lt x.toInt
  have ha : ∀ y : Int32, y.toInt = (wof x.toInt : Int) → Q (some (vi y)) I L R Z := fun y hy => by rw [show y = nI (wof x.toInt) from i_eq.mpr (by rw [nT (by omega)]; exact hy)]; exact hQ
  refine AMet.of mf_Jm_floorMod rfl (Nat.le_of_ble_eq_true rfl) ?_
  refine aw_iload_n e_Jm_floorMod_0 rfl ?_
  refine aw_iload_n e_Jm_floorMod_1 rfl ?_
  refine aw_irem e_Jm_floorMod_2 (by decide) ?_
  refine aw_ist2 e_Jm_floorMod_3 ?_
  refine aw_iload_n e_Jm_floorMod_4 rfl ?_
  refine aw_iload_n e_Jm_floorMod_5 rfl ?_
  refine aw_ixor e_Jm_floorMod_6 ?_
  refine awZ_if_ge e_Jm_floorMod_7 (fun h7 => ?_) (fun h7 => ?_)
  · refine aw_iload_n e_Jm_floorMod_18 rfl ?_
    refine aw_iret e_Jm_floorMod_19 rfl rfl (ha _ ?_)
    rw [hr]
    first
      | (have h13 : ¬ x.toInt < 0 := fun q => absurd (hx.mpr q) (by omega)
         rw [if_neg (by omega)] at hw
         exact hw)
      | (rw [hr] at h11
         rw [if_neg (by omega)] at hw
         exact hw)
  · refine aw_iload_n e_Jm_floorMod_10 rfl ?_
    refine awZ_if_eq e_Jm_floorMod_11 (fun h11 => ?_) (fun h11 => ?_)
    · refine aw_iload_n e_Jm_floorMod_18 rfl ?_
      refine aw_iret e_Jm_floorMod_19 rfl rfl (ha _ ?_)
      rw [hr]
      first
        | (have h13 : ¬ x.toInt < 0 := fun q => absurd (hx.mpr q) (by omega)
           rw [if_neg (by omega)] at hw
           exact hw)
        | (rw [hr] at h11
           rw [if_neg (by omega)] at hw
           exact hw)
    · refine aw_iload_n e_Jm_floorMod_14 rfl ?_
      refine aw_iload_n e_Jm_floorMod_15 rfl ?_
      refine aw_iadd e_Jm_floorMod_16 ?_
      refine aw_iret e_Jm_floorMod_17 rfl rfl (ha _ ?_)
      rw [Int32.toInt_add, hr, h0]
      have h12 : ¬ x.toInt.tmod 1000003 = 0 := fun q => h11 (hr.trans q)
      have h13 := hx.mp (by omega)
      rw [if_pos (by omega)] at hw
      rw [bm32 (by omega) (by omega)]
      exact hw
theorem c_Pb_worthOf {l : Launch} {E : En} {d : Nat} {I : It} {L : Lt} {R : Rt} {Z : Zt} {Q : Qt} {x : Int32} (hQ : Q (some (vi (nI (wof x.toInt)))) I L R Z) : AMet l E (d + 1) M_Pb_worthOf [vi x] I L R Z Q := by
  refine AMet.of mf_Pb_worthOf rfl (Nat.le_of_ble_eq_true rfl) ?_
  refine aw_iload_n e_Pb_worthOf_0 rfl ?_
  refine aw_ldcw (v := nI 1000003) e_Pb_worthOf_1 kc_Pb_329 ?_
  refine aw_cS2 e_Pb_worthOf_4 ml_Pb_330 mf_Jm_floorMod ms_Jm_floorMod (c_Jm_floorMod ?_)
  exact aw_iret e_Pb_worthOf_7 rfl rfl hQ
theorem c_Pb_product {l : Launch} {E : En} {d : Nat} {I : It} {L : Lt} {R : Rt} {Z : Zt} {Q : Qt} {a b : Nat} (ha : a < 1000003) (hb : b < 1000003) (hQ : Q (some (vi (nI (a * b % 1000003)))) I L R Z) : AMet l E d M_Pb_product [vl (lN a), vl (lN b)] I L R Z Q := by
  have hm := mulP ha hb
  refine AMet.of mf_Pb_product rfl (Nat.le_of_ble_eq_true rfl) ?_
  refine aw_lload_n e_Pb_product_0 rfl ?_
  refine aw_lload_n e_Pb_product_1 rfl ?_
  refine awN_lmul e_Pb_product_2 ?_
  refine aw_ldc2 (v := lN 1000003) e_Pb_product_3 kl_Pb_335 ?_
  refine awN_lrem e_Pb_product_6 (by omega) (by omega) (by omega) ?_
  refine awN_l2i e_Pb_product_7 ?_
  exact aw_iret e_Pb_product_8 rfl rfl hQ
theorem c_Pb_inverse {l : Launch} {E : En} {d : Nat} {I : It} {L : Lt} {R : Rt} {Z : Zt} {Q : Qt} {w : Nat} (hw : w < 1000003) (hQ : Q (some (vl (lN (ivP w)))) I L R Z) : AMet l E d M_Pb_inverse [vl (lN w)] I L R Z Q := by
  refine AMet.of mf_Pb_inverse rfl (Nat.le_of_ble_eq_true rfl) ?_
  refine aw_lconst (v := lN 1) e_Pb_inverse_0 rfl ?_
  refine aw_lst2 e_Pb_inverse_1 ?_
  refine aw_lload_n e_Pb_inverse_2 rfl ?_
  refine aw_lst4 e_Pb_inverse_3 ?_
  refine aw_ldcw (v := nI 1000001) e_Pb_inverse_5 kc_Pb_337 ?_
  refine aw_ist6 e_Pb_inverse_8 ?_
  refine str_loop (P := fun e => ∀ r q, e < 2000000 → r < 1000003 → q < 1000003 → r * q ^ e % 1000003 = ivP w → AWq l E d M_Pb_inverse Z 10 [some (vl (lN w)), none, some (vl (lN r)), none, some (vl (lN q)), none, some (vi (nI e))] [] I L R Z Q) (fun e ih r q he hr hq hv => ?_) 1000001 1 w (by decide) (by decide) hw (by unfold ivP; rw [Nat.one_mul])
  refine aw_iload e_Pb_inverse_10 rfl ?_
  refine awN_if_le e_Pb_inverse_12 (by omega) (fun h12 => ?_) (fun h12 => ?_)
  · refine aw_lload_n e_Pb_inverse_52 rfl ?_
    exact aw_lret e_Pb_inverse_53 rfl (by rw [show r = ivP w by rw [← hv, h12, Nat.pow_zero, Nat.mul_one, Nat.mod_eq_of_lt hr]]; exact hQ)
  · refine aw_iload e_Pb_inverse_15 rfl ?_
    refine aw_iconst (v := nI 1) e_Pb_inverse_17 (by decide) ?_
    refine aw_iand e_Pb_inverse_18 ?_
    rw [pk_andN (n := e) (by omega) 1 (by decide)]
    refine aw_iconst (v := nI 1) e_Pb_inverse_19 (by decide) ?_
    refine awN_icmp_ne e_Pb_inverse_20 (by omega) (by omega) (fun h20 => ?_) (fun h20 => ?_)
    · refine aw_lload e_Pb_inverse_32 rfl ?_
      refine aw_lload e_Pb_inverse_34 rfl ?_
      refine awN_lmul e_Pb_inverse_36 ?_
      have hm2 := mulP hq hq
      refine aw_ldc2 (v := lN 1000003) e_Pb_inverse_37 kl_Pb_335 ?_
      refine awN_lrem e_Pb_inverse_40 (by omega) (by omega) (by omega) ?_
      refine aw_lst4 e_Pb_inverse_41 ?_
      refine aw_iload e_Pb_inverse_43 rfl ?_
      refine aw_iconst (v := nI 1) e_Pb_inverse_45 (by decide) ?_
      refine aw_ishr e_Pb_inverse_46 ?_
      rw [pk_shrN (n := e) (by omega) (nI 1 &&& 31) 1 (by decide)]
      refine aw_ist6 e_Pb_inverse_47 ?_
      refine aw_goto e_Pb_inverse_49 ?_
      first
        | exact ih (e / 2) (by omega) _ _ (by omega) (modP _) (modP _) (iv_odd hv (by omega))
        | exact ih (e / 2) (by omega) _ _ (by omega) hr (modP _) (iv_even hv (by omega))
    · refine aw_lload_n e_Pb_inverse_23 rfl ?_
      refine aw_lload e_Pb_inverse_24 rfl ?_
      refine awN_lmul e_Pb_inverse_26 ?_
      have hm1 := mulP hr hq
      refine aw_ldc2 (v := lN 1000003) e_Pb_inverse_27 kl_Pb_335 ?_
      refine awN_lrem e_Pb_inverse_30 (by omega) (by omega) (by omega) ?_
      refine aw_lst2 e_Pb_inverse_31 ?_
      refine aw_lload e_Pb_inverse_32 rfl ?_
      refine aw_lload e_Pb_inverse_34 rfl ?_
      refine awN_lmul e_Pb_inverse_36 ?_
      have hm2 := mulP hq hq
      refine aw_ldc2 (v := lN 1000003) e_Pb_inverse_37 kl_Pb_335 ?_
      refine awN_lrem e_Pb_inverse_40 (by omega) (by omega) (by omega) ?_
      refine aw_lst4 e_Pb_inverse_41 ?_
      refine aw_iload e_Pb_inverse_43 rfl ?_
      refine aw_iconst (v := nI 1) e_Pb_inverse_45 (by decide) ?_
      refine aw_ishr e_Pb_inverse_46 ?_
      rw [pk_shrN (n := e) (by omega) (nI 1 &&& 31) 1 (by decide)]
      refine aw_ist6 e_Pb_inverse_47 ?_
      refine aw_goto e_Pb_inverse_49 ?_
      first
        | exact ih (e / 2) (by omega) _ _ (by omega) (modP _) (modP _) (iv_odd hv (by omega))
        | exact ih (e / 2) (by omega) _ _ (by omega) hr (modP _) (iv_even hv (by omega))
