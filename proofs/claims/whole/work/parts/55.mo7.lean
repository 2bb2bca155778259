/-! ===== the model: the laws solved ===== -/
def sclF (F : Nat → Nat → Nat) (k u : Nat) : Nat → Nat → Nat := fun r => if r = k then (fun c => F k c * u % 1000003) else F r
def clrF (F : Nat → Nat → Nat) (k i : Nat) : Nat → Nat → Nat := fun r => if r = k then F r else fun c => wof ((F r c : Int) - (F r i : Int) * (F k c : Int))
theorem wof_lin {a v b : Nat} (hv : v < 1000003) : wof ((a : Int) - (v : Int) * (b : Int)) = (a + (1000003 - v) * b) % 1000003 := by
  have hq : ((1000003 - v : Nat) : Int) = 1000003 - (v : Int) := by omega
  have e : ((a + (1000003 - v) * b : Nat) : Int) = ((a : Int) - (v : Int) * (b : Int)) + (b : Int) * 1000003 := by
    rw [Int.natCast_add, Int.natCast_mul, hq, Int.sub_mul, Int.mul_comm (b : Int) 1000003]
    omega
  have e2 := congrArg (· % (1000003 : Int)) e
  simp only [Int.add_mul_emod_self_right] at e2
  unfold wof
  rw [← e2]
  omega
theorem fw_lt {w i : Nat} (F : Nat → Nat → Nat) (r : Nat) (h : i < w) : fw w F r i = F r i := by unfold fw fwr; rw [if_pos h]
theorem fw_swp (w k f : Nat) (F : Nat → Nat → Nat) : fw w (swp F k f) = swp (fw w F) k f := by
  funext r
  unfold fw swp
  split
  · rfl
  · split <;> rfl
theorem fw_scl {w k i u : Nat} {F : Nat → Nat → Nat} (hz : ∀ c, c < i → fw w F k c = 0) : fw w (sclF F k u) = scl (fw w F) k i u := by
  funext r c
  unfold scl
  by_cases e : r = k
  · rw [if_pos e, e]
    show (if k = k then (fun c => F k c * u % 1000003) else F k) (if c < w then c else 24) = _
    rw [if_pos rfl]
    show fw w F k c * u % 1000003 = if i ≤ c then fw w F k c * u % 1000003 else fw w F k c
    by_cases e2 : i ≤ c
    · rw [if_pos e2]
    · rw [if_neg e2, hz c (by omega), Nat.zero_mul]
  · rw [if_neg e]
    show (if r = k then (fun c => F k c * u % 1000003) else F r) _ = _
    rw [if_neg e]
    rfl
theorem fw_clr {n w k i r c : Nat} {F : Nat → Nat → Nat} (hi : i < w) (hB : Bd n w (fw w F)) (hz : ∀ c, c < i → fw w F k c = 0) (hr : r < n) (hc : c ≤ w) : fw w (clrF F k i) r c = clr (fw w F) k i r c := by
  unfold clr
  have hrc := hB r c hr hc
  have hri := hB r i hr (by omega)
  by_cases e : r = k
  · rw [if_pos (Or.inl e)]
    show (if r = k then F r else _) _ = _
    rw [if_pos e]
    rfl
  · show (if r = k then F r else fun c => wof ((F r c : Int) - (F r i : Int) * (F k c : Int))) (if c < w then c else 24) = _
    rw [if_neg e]
    show wof ((fw w F r c : Int) - (F r i : Int) * (fw w F k c : Int)) = _
    rw [← fw_lt F r hi, wof_lin hri]
    by_cases e2 : fw w F r i = 0
    · rw [if_pos (Or.inr e2), e2]
      rw [Nat.sub_zero, Nat.add_mul_mod_self_left, Nat.mod_eq_of_lt hrc]
    · rw [if_neg (by omega)]
      by_cases e3 : i ≤ c
      · rw [if_pos e3]
      · rw [if_neg e3, hz c (by omega), Nat.mul_zero, Nat.add_zero, Nat.mod_eq_of_lt hrc]
theorem GI_cg {A B : Nat → Nat → Nat} {n w i k : Nat} {pv : Nat → Nat} (h : GI A n w i k pv) (e : ∀ r c, r < n → c ≤ w → A r c = B r c) : GI B n w i k pv := by
  obtain ⟨h1, h2, h3, h4, h5⟩ := h
  exact ⟨h1, h2, h3, fun r s hr hs => by rw [← e s (pv r) hs (by have := h2 r hr; omega)]; exact h4 r s hr hs, fun r c a b d => by rw [← e r c b (by omega)]; exact h5 r c a b d⟩
theorem Sol_cg {A B : Nat → Nat → Nat} {n w : Nat} {x : Nat → Nat} (e : ∀ r c, r < n → c ≤ w → A r c = B r c) : Sol n w A x ↔ Sol n w B x :=
  ⟨fun q r hr => (eqn_cg (e r · hr)).1 (q r hr), fun q r hr => (eqn_cg (e r · hr)).2 (q r hr)⟩
theorem TM_Bd {I : It} {L : Lt} {n w : Nat} {F : Nat → Nat → Nat} (h : TM I L n F) (hw : w ≤ 24) : Bd n w (fw w F) := fun r c hr hc => by
  unfold fw fwr
  exact (h.2.2 r _ hr (by split <;> omega)).2
/-- one column of the model's elimination -/
theorem GI_mo {F : Nat → Nat → Nat} {n w i k f : Nat} {pv x : Nat → Nat} (h : GI (fw w F) n w i k pv) (hi : i < w) (hB : Bd n w (fw w F)) (hk : k ≤ f) (hf : f < n) (hne : F f i ≠ 0) : GI (fw w (clrF (sclF (swp F k f) k (ivP (F f i))) k i)) n w (i + 1) (k + 1) (fun r => if r = k then i else pv r) ∧ (Sol n w (fw w (clrF (sclF (swp F k f) k (ivP (F f i))) k i)) x ↔ Sol n w (fw w F) x) := by
  have hne2 : fw w F f i ≠ 0 := by rw [fw_lt F f hi]; exact hne
  have hz0 : ∀ c, c < i → swp (fw w F) k f k c = 0 := fun c hc => by
    unfold swp
    rw [if_pos rfl]
    exact h.2.2.2.2 f c hk hf hc
  have hz1 : ∀ c, c < i → scl (swp (fw w F) k f) k i (ivP (F f i)) k c = 0 := fun c hc => by
    unfold scl
    rw [if_pos rfl]
    show (if i ≤ c then _ else swp (fw w F) k f k c) = 0
    rw [if_neg (by omega)]
    exact hz0 c hc
  have e1 : fw w (sclF (swp F k f) k (ivP (F f i))) = scl (swp (fw w F) k f) k i (ivP (F f i)) := by
    rw [← fw_swp]
    exact fw_scl (by rw [fw_swp]; exact hz0)
  have hBs : Bd n w (scl (swp (fw w F) k f) k i (ivP (F f i))) := Bd_scl (Bd_swp hB (by omega) hf) (by omega)
  have e2 : ∀ r c, r < n → c ≤ w → clr (scl (swp (fw w F) k f) k i (ivP (fw w F f i))) k i r c = fw w (clrF (sclF (swp F k f) k (ivP (F f i))) k i) r c := fun r c hr hc => by
    rw [fw_clr (n := n) hi (by rw [e1]; exact hBs) (by rw [e1]; exact hz1) hr hc, e1, fw_lt F f hi]
  exact ⟨GI_cg (GI_step h hi hB hk hf hne2) e2, (Sol_cg e2).symm.trans (GI_sol h hi hB hk hf hne2)⟩
def sclQ (F : Nat → Nat → Nat) (k u j : Nat) : Nat → Nat → Nat := fun r => if r = k then (fun c => if c < j then F k c * u % 1000003 else F k c) else F r
theorem sclQ_j (F : Nat → Nat → Nat) (k u j : Nat) : sclQ F k u j k j = F k j := by unfold sclQ; rw [if_pos rfl]; exact if_neg (Nat.lt_irrefl j)
theorem sclQ_s {F : Nat → Nat → Nat} {k u j r c : Nat} : setR (sclQ F k u j) k j (F k j * u % 1000003) r c = sclQ F k u (j + 1) r c := by
  unfold setR sclQ
  by_cases h1 : r = k
  · rw [if_pos h1, if_pos h1]
    by_cases h2 : c = j
    · rw [if_pos h2, if_pos (by omega), h2]
    · rw [if_neg h2]
      show (if k = k then (fun c => if c < j then F k c * u % 1000003 else F k c) else F k) c = _
      rw [if_pos rfl]
      show (if c < j then F k c * u % 1000003 else F k c) = _
      by_cases h4 : c < j
      · rw [if_pos h4, if_pos (show c < j + 1 by omega)]
      · rw [if_neg h4, if_neg (show ¬ c < j + 1 by omega)]
  · rw [if_neg h1, if_neg h1, if_neg h1]
def clM (F : Nat → Nat → Nat) (k i m : Nat) : Nat → Nat → Nat := fun r => if r < m then clrF F k i r else F r
def clN (F : Nat → Nat → Nat) (k i m j : Nat) : Nat → Nat → Nat := fun r => if r < m then clrF F k i r else if r = m then (fun c => if c < j then clrF F k i m c else F m c) else F r
theorem clN_m (F : Nat → Nat → Nat) (k i m j : Nat) : clN F k i m j m j = F m j := by
  unfold clN
  rw [if_neg (Nat.lt_irrefl m), if_pos rfl]
  exact if_neg (Nat.lt_irrefl j)
theorem clN_k {F : Nat → Nat → Nat} {k i m j c : Nat} (h : ¬ m = k) : clN F k i m j k c = F k c := by
  unfold clN
  by_cases e : k < m
  · rw [if_pos e]
    unfold clrF
    rw [if_pos rfl]
  · rw [if_neg e, if_neg (by omega)]
theorem clN_0 {F : Nat → Nat → Nat} {k i m r c : Nat} : clM F k i m r c = clN F k i m 0 r c := by
  unfold clM clN
  by_cases e : r < m
  · rw [if_pos e, if_pos e]
  · rw [if_neg e, if_neg e]
    by_cases e2 : r = m
    · rw [if_pos e2, e2]
      exact (if_neg (Nat.not_lt_zero c)).symm
    · rw [if_neg e2]
theorem clN_e {F : Nat → Nat → Nat} {k i m r c : Nat} (hc : c < 25) : clN F k i m 25 r c = clM F k i (m + 1) r c := by
  unfold clM clN
  by_cases e : r < m
  · rw [if_pos e, if_pos (by omega)]
  · rw [if_neg e]
    by_cases e2 : r = m
    · rw [if_pos e2, e2, if_pos (show m < m + 1 by omega)]
      exact if_pos hc
    · rw [if_neg e2, if_neg (by omega)]
theorem clM_k {F : Nat → Nat → Nat} {k i m r c : Nat} (h : m = k) : clM F k i m r c = clM F k i (m + 1) r c := by
  unfold clM
  by_cases e : r < m
  · rw [if_pos e, if_pos (by omega)]
  · rw [if_neg e]
    by_cases e2 : r = m
    · rw [if_pos (by omega)]
      unfold clrF
      rw [if_pos (by omega)]
    · rw [if_neg (by omega)]
theorem clN_s {F : Nat → Nat → Nat} {k i m j r c : Nat} (h : ¬ m = k) : setR (clN F k i m j) m j (wof ((F m j : Int) - (F m i : Int) * (F k j : Int))) r c = clN F k i m (j + 1) r c := by
  have hm : clrF F k i m = fun c => wof ((F m c : Int) - (F m i : Int) * (F k c : Int)) := by unfold clrF; rw [if_neg h]
  unfold setR
  by_cases h1 : r = m
  · rw [if_pos h1, h1]
    show (if c = j then _ else clN F k i m j m c) = _
    unfold clN
    rw [if_neg (Nat.lt_irrefl m), if_pos rfl, if_neg (Nat.lt_irrefl m), if_pos rfl, hm]
    show (if c = j then _ else if c < j then _ else F m c) = if c < j + 1 then _ else F m c
    by_cases h2 : c = j
    · rw [if_pos h2, if_pos (by omega), h2]
    · rw [if_neg h2]
      by_cases h4 : c < j
      · rw [if_pos h4, if_pos (show c < j + 1 by omega)]
      · rw [if_neg h4, if_neg (show ¬ c < j + 1 by omega)]
  · rw [if_neg h1]
    unfold clN
    by_cases e : r < m
    · rw [if_pos e, if_pos e]
    · rw [if_neg e, if_neg e, if_neg h1, if_neg h1]
theorem sub_lT {a b c : Nat} (ha : a < 1000003) (hb : b < 1000003) (hc : c < 1000003) : (lN a - lN (b * c)).toInt = (a : Int) - (b : Int) * (c : Int) := by
  have hm := mulP hb hc
  rw [Int64.toInt_sub, pk_lT (by omega), pk_lT (by omega), Int.natCast_mul]
  have e : ((b * c : Nat) : Int) = (b : Int) * (c : Int) := Int.natCast_mul b c
  exact bm64 (by omega) (by omega)
theorem so_at {l : Launch} {E : En} {d : Nat} {I : It} {L : Lt} {R : Rt} {Z Z0 : Zt} {Q : Qt} {n w k c : Nat} {F : Nat → Nat → Nat} (hS : Sta R) (hT : TM I L n F) (hc : c < w) (hw24 : w ≤ 24) (hk : k ≤ n) (kf : ∀ f, k ≤ f → f < n → F f c ≠ 0 → AWq l E (d + 4) M_Mo_solve Z0 103 [some (vr 9 0), some (vi (nI w)), some (vi (nI k)), some (vi (nI c)), some (vi (nI f)), none, none, none, none, none, none] [] I L R Z Q) (kn : (∀ r, k ≤ r → r < n → F r c = 0) → AWq l E (d + 4) M_Mo_solve Z0 275 [some (vr 9 0), some (vi (nI w)), some (vi (nI k)), some (vi (nI c)), some (vi (nI n)), none, none, none, none, none, none] [] I L R Z Q) : ∀ a, a ≤ n → k ≤ a → (∀ r, k ≤ r → r < a → F r c = 0) → AWq l E (d + 4) M_Mo_solve Z0 59 [some (vr 9 0), some (vi (nI w)), some (vi (nI k)), some (vi (nI c)), some (vi (nI a)), none, none, none, none, none, none] [] I L R Z Q := by
  have hn := hT.2.1
  refine up_loop (fun a ha ih hka hz => ?_)
  refine aw_iload e_Mo_solve_59 rfl ?_
  refine aw_aload_n e_Mo_solve_61 rfl ?_
  refine aw_getE e_Mo_solve_62 fl_Mo_146 hT.1 ?_
  refine awN_icmp_ge e_Mo_solve_65 (by omega) (by omega) (fun h65 => ?_) (fun h65 => ?_)
  · refine aw_iload e_Mo_solve_91 rfl ?_
    refine aw_aload_n e_Mo_solve_93 rfl ?_
    refine aw_getE e_Mo_solve_94 fl_Mo_146 hT.1 ?_
    refine awN_icmp_ne e_Mo_solve_97 (by omega) (by omega) (fun h97 => ?_) (fun h97 => ?_)
    · first
        | exact absurd h97 (by omega)
        | exact kf a hka h65 h82
    · refine aw_goto e_Mo_solve_100 ?_
      first
        | exact absurd h97 (by omega)
        | (obtain rfl : a = n := by omega
           exact kn hz)
  · refine aw_aload_n e_Mo_solve_68 rfl ?_
    refine aw_getR e_Mo_solve_69 fl_Mo_43 (hS.1 _ _ _ _ rfl) ?_
    refine aw_bipush (v := nI 25) e_Mo_solve_72 (by decide) ?_
    refine aw_iload e_Mo_solve_74 rfl ?_
    first | refine awN_imul e_Mo_solve_76 ?_ | refine aw_imul e_Mo_solve_76 ?_
    refine aw_iload_n e_Mo_solve_77 rfl ?_
    first | refine awN_iadd e_Mo_solve_78 ?_ | refine aw_iadd e_Mo_solve_78 ?_
    refine aw_lalE e_Mo_solve_79 rfl (show _ < 600 by omega) (by omega) (TM_v hT (by omega) (by omega)) ?_
    refine aw_lconst (v := lN 0) e_Mo_solve_80 rfl ?_
    refine aw_lcmp e_Mo_solve_81 ?_
    refine awL_ne e_Mo_solve_82 (by have := (hT.2.2 a c (by omega) (by omega)).2; omega) (by decide) (fun h82 => ?_) (fun h82 => ?_)
    · refine aw_iload e_Mo_solve_91 rfl ?_
      refine aw_aload_n e_Mo_solve_93 rfl ?_
      refine aw_getE e_Mo_solve_94 fl_Mo_146 hT.1 ?_
      refine awN_icmp_ne e_Mo_solve_97 (by omega) (by omega) (fun h97 => ?_) (fun h97 => ?_)
      · first
          | exact absurd h97 (by omega)
          | exact kf a hka h65 h82
      · refine aw_goto e_Mo_solve_100 ?_
        first
          | exact absurd h97 (by omega)
          | (obtain rfl : a = n := by omega
             exact kn hz)
    · refine aw_inc4 e_Mo_solve_85 (inc1 _) ?_
      refine aw_goto e_Mo_solve_88 ?_
      exact ih h65 (by omega) (fun r h1 h2 => by by_cases e : r = a; exact e ▸ h82; exact hz r h1 (by omega))
theorem so_scl {l : Launch} {E : En} {d : Nat} {I : It} {L : Lt} {R : Rt} {Z Z0 : Zt} {Q : Qt} {n w k c : Nat} {F : Nat → Nat → Nat} (hS : Sta R) (hT : TM I L n F) (hc : c < w) (hw24 : w ≤ 24) (hk : k < n) {a u : Nat} (hu : u < 1000003) (kk : ∀ L2, TM I L2 n (sclF F k u) → frT L L2 → AWq l E (d + 4) M_Mo_solve Z0 173 [some (vr 9 0), some (vi (nI w)), some (vi (nI k)), some (vi (nI c)), some (vi (nI a)), some (vl (lN u)), none, none, none, none, none] [] I L2 R Z Q) : AWq l E (d + 4) M_Mo_solve Z0 129 [some (vr 9 0), some (vi (nI w)), some (vi (nI k)), some (vi (nI c)), some (vi (nI a)), some (vl (lN u)), none, some (vi (nI 0)), none, none, none] [] I L R Z Q := by
  have hn := hT.2.1
  refine up_loop (P := fun j => ∀ L1, TM I L1 n (sclQ F k u j) → frT L L1 → AWq l E (d + 4) M_Mo_solve Z0 129 [some (vr 9 0), some (vi (nI w)), some (vi (nI k)), some (vi (nI c)), some (vi (nI a)), some (vl (lN u)), none, some (vi (nI j)), none, none, none] [] I L1 R Z Q) (N := 25) (fun j hj ih L1 hT1 hf1 => ?_) 0 (by omega) L (TM_cg hT (fun r c hr hc => by unfold sclQ; by_cases e : r = k; rw [if_pos e, e]; exact (if_neg (Nat.not_lt_zero c)).symm; rw [if_neg e])) frT_0
  refine aw_iload e_Mo_solve_129 rfl ?_
  refine aw_bipush (v := nI 25) e_Mo_solve_131 (by decide) ?_
  refine awN_icmp_ge e_Mo_solve_133 (by omega) (by omega) (fun h133 => ?_) (fun h133 => ?_)
  · rw [show j = 25 by omega] at hT1
    refine aw_drop 7 ?_
    exact kk _ (TM_cg hT1 (fun r c hr hc => by unfold sclQ sclF; by_cases e : r = k; rw [if_pos e, if_pos e]; exact if_pos hc; rw [if_neg e, if_neg e])) hf1
  · refine aw_aload_n e_Mo_solve_136 rfl ?_
    refine aw_getR e_Mo_solve_137 fl_Mo_43 (hS.1 _ _ _ _ rfl) ?_
    refine aw_bipush (v := nI 25) e_Mo_solve_140 (by decide) ?_
    refine aw_iload_n e_Mo_solve_142 rfl ?_
    first | refine awN_imul e_Mo_solve_143 ?_ | refine aw_imul e_Mo_solve_143 ?_
    refine aw_iload e_Mo_solve_144 rfl ?_
    first | refine awN_iadd e_Mo_solve_146 ?_ | refine aw_iadd e_Mo_solve_146 ?_
    refine aw_aload_n e_Mo_solve_147 rfl ?_
    refine aw_getR e_Mo_solve_148 fl_Mo_43 (hS.1 _ _ _ _ rfl) ?_
    refine aw_bipush (v := nI 25) e_Mo_solve_151 (by decide) ?_
    refine aw_iload_n e_Mo_solve_153 rfl ?_
    first | refine awN_imul e_Mo_solve_154 ?_ | refine aw_imul e_Mo_solve_154 ?_
    refine aw_iload e_Mo_solve_155 rfl ?_
    first | refine awN_iadd e_Mo_solve_157 ?_ | refine aw_iadd e_Mo_solve_157 ?_
    refine aw_lalE e_Mo_solve_158 rfl (show _ < 600 by omega) (by omega) ((TM_v hT1 hk h133).trans (by rw [sclQ_j])) ?_
    refine aw_lload e_Mo_solve_159 rfl ?_
    have hm := mulP (hT.2.2 k j hk h133).2 hu
    refine awN_lmul e_Mo_solve_161 ?_
    refine aw_ldc2 (v := lN 1000003) e_Mo_solve_162 kl_Mo_83 ?_
    refine awN_lrem e_Mo_solve_165 (by omega) (by omega) (by omega) ?_
    refine aw_last e_Mo_solve_166 rfl (show _ < 600 by omega) (by omega) ?_
    refine aw_inc7 e_Mo_solve_167 (inc1 _) ?_
    refine aw_goto e_Mo_solve_170 ?_
    exact ih h133 _ (TM_cg (TM_set hT1 hk h133 (modP _)) (fun r c hr hc => sclQ_s)) (frT_s hf1)
theorem so_clr {l : Launch} {E : En} {d : Nat} {I : It} {L : Lt} {R : Rt} {Z Z0 : Zt} {Q : Qt} {n w k c : Nat} {F : Nat → Nat → Nat} (hS : Sta R) (hT : TM I L n F) (hc : c < w) (hw24 : w ≤ 24) (hk : k < n) {a u : Nat} (kk : ∀ L2, TM I L2 n (clrF F k c) → frT L L2 → AWq l E (d + 4) M_Mo_solve Z0 272 [some (vr 9 0), some (vi (nI w)), some (vi (nI k)), some (vi (nI c)), some (vi (nI a)), some (vl (lN u)), none, none, none, none, none] [] I L2 R Z Q) : AWq l E (d + 4) M_Mo_solve Z0 176 [some (vr 9 0), some (vi (nI w)), some (vi (nI k)), some (vi (nI c)), some (vi (nI a)), some (vl (lN u)), none, some (vi (nI 0)), none, none, none] [] I L R Z Q := by
  have hn := hT.2.1
  refine up_loop (P := fun m => ∀ L1, TM I L1 n (clM F k c m) → frT L L1 → AWq l E (d + 4) M_Mo_solve Z0 176 [some (vr 9 0), some (vi (nI w)), some (vi (nI k)), some (vi (nI c)), some (vi (nI a)), some (vl (lN u)), none, some (vi (nI m)), none, none, none] [] I L1 R Z Q) (N := n) (fun m hm ih L1 hT1 hf1 => ?_) 0 (Nat.zero_le _) L (TM_cg hT (fun r c hr hc => by unfold clM; rw [if_neg (Nat.not_lt_zero r)])) frT_0
  refine aw_iload e_Mo_solve_176 rfl ?_
  refine aw_aload_n e_Mo_solve_178 rfl ?_
  refine aw_getE e_Mo_solve_179 fl_Mo_146 hT.1 ?_
  refine awN_icmp_ge e_Mo_solve_182 (by omega) (by omega) (fun h182 => ?_) (fun h182 => ?_)
  · rw [show m = n by omega] at hT1
    refine aw_drop 7 ?_
    exact kk _ (TM_cg hT1 (fun r c hr hc => by unfold clM; rw [if_pos hr])) hf1
  · refine aw_aload_n e_Mo_solve_185 rfl ?_
    refine aw_getR e_Mo_solve_186 fl_Mo_43 (hS.1 _ _ _ _ rfl) ?_
    refine aw_bipush (v := nI 25) e_Mo_solve_189 (by decide) ?_
    refine aw_iload e_Mo_solve_191 rfl ?_
    first | refine awN_imul e_Mo_solve_193 ?_ | refine aw_imul e_Mo_solve_193 ?_
    refine aw_iload_n e_Mo_solve_194 rfl ?_
    first | refine awN_iadd e_Mo_solve_195 ?_ | refine aw_iadd e_Mo_solve_195 ?_
    refine aw_lalE e_Mo_solve_196 rfl (show _ < 600 by omega) (by omega) ((TM_v hT1 h182 (by omega)).trans (by unfold clM; rw [if_neg (Nat.lt_irrefl m)])) ?_
    refine aw_lst8 e_Mo_solve_197 ?_
    refine aw_iconst (v := nI 0) e_Mo_solve_199 (by decide) ?_
    refine aw_ist10 e_Mo_solve_200 ?_
    have kb : ∀ L3, TM I L3 n (clM F k c (m + 1)) → frT L L3 → AWq l E (d + 4) M_Mo_solve Z0 266 [some (vr 9 0), some (vi (nI w)), some (vi (nI k)), some (vi (nI c)), some (vi (nI a)), some (vl (lN u)), none, some (vi (nI m)), none, none, none] [] I L3 R Z Q := fun L3 hT3 hf3 => by
      refine aw_inc7 e_Mo_solve_266 (inc1 _) ?_
      refine aw_goto e_Mo_solve_269 ?_
      exact ih h182 _ hT3 hf3
    by_cases hmk : m = k
    · refine aw_iload e_Mo_solve_202 rfl ?_
      refine aw_bipush (v := nI 25) e_Mo_solve_204 (by decide) ?_
      refine awN_icmp_ge e_Mo_solve_206 (by omega) (by omega) (fun h206 => ?_) (fun h206 => ?_)
      · exact absurd h206 (by decide)
      · refine aw_iload e_Mo_solve_209 rfl ?_
        refine aw_iload_n e_Mo_solve_211 rfl ?_
        refine awN_icmp_eq e_Mo_solve_212 (by omega) (by omega) (fun h212 => ?_) (fun h212 => ?_)
        · refine aw_drop 8 ?_
          refine aw_drop 10 ?_
          exact kb _ (TM_cg hT1 (fun r c hr hc => clM_k hmk)) hf1
        · exact absurd hmk h212
    · have k202 : ∀ j, j ≤ 25 → ∀ L2, TM I L2 n (clN F k c m j) → frT L L2 → AWq l E (d + 4) M_Mo_solve Z0 202 [some (vr 9 0), some (vi (nI w)), some (vi (nI k)), some (vi (nI c)), some (vi (nI a)), some (vl (lN u)), none, some (vi (nI m)), some (vl (lN (F m c))), none, some (vi (nI j))] [] I L2 R Z Q := by
        refine up_loop (fun j hj ihj L2 hT2 hf2 => ?_)
        refine aw_iload e_Mo_solve_202 rfl ?_
        refine aw_bipush (v := nI 25) e_Mo_solve_204 (by decide) ?_
        refine awN_icmp_ge e_Mo_solve_206 (by omega) (by omega) (fun h206 => ?_) (fun h206 => ?_)
        · rw [show j = 25 by omega] at hT2
          refine aw_drop 8 ?_
          refine aw_drop 10 ?_
          exact kb _ (TM_cg hT2 (fun r c hr hc => clN_e hc)) hf2
        · refine aw_iload e_Mo_solve_209 rfl ?_
          refine aw_iload_n e_Mo_solve_211 rfl ?_
          refine awN_icmp_eq e_Mo_solve_212 (by omega) (by omega) (fun h212 => ?_) (fun h212 => ?_)
          · exact absurd h212 hmk
          · refine aw_aload_n e_Mo_solve_215 rfl ?_
            refine aw_getR e_Mo_solve_216 fl_Mo_43 (hS.1 _ _ _ _ rfl) ?_
            refine aw_bipush (v := nI 25) e_Mo_solve_219 (by decide) ?_
            refine aw_iload e_Mo_solve_221 rfl ?_
            first | refine awN_imul e_Mo_solve_223 ?_ | refine aw_imul e_Mo_solve_223 ?_
            refine aw_iload e_Mo_solve_224 rfl ?_
            first | refine awN_iadd e_Mo_solve_226 ?_ | refine aw_iadd e_Mo_solve_226 ?_
            refine aw_aload_n e_Mo_solve_227 rfl ?_
            refine aw_getR e_Mo_solve_228 fl_Mo_43 (hS.1 _ _ _ _ rfl) ?_
            refine aw_bipush (v := nI 25) e_Mo_solve_231 (by decide) ?_
            refine aw_iload e_Mo_solve_233 rfl ?_
            first | refine awN_imul e_Mo_solve_235 ?_ | refine aw_imul e_Mo_solve_235 ?_
            refine aw_iload e_Mo_solve_236 rfl ?_
            first | refine awN_iadd e_Mo_solve_238 ?_ | refine aw_iadd e_Mo_solve_238 ?_
            refine aw_lalE e_Mo_solve_239 rfl (show _ < 600 by omega) (by omega) ((TM_v hT2 h182 h206).trans (by rw [clN_m])) ?_
            refine aw_lload e_Mo_solve_240 rfl ?_
            refine aw_aload_n e_Mo_solve_242 rfl ?_
            refine aw_getR e_Mo_solve_243 fl_Mo_43 (hS.1 _ _ _ _ rfl) ?_
            refine aw_bipush (v := nI 25) e_Mo_solve_246 (by decide) ?_
            refine aw_iload_n e_Mo_solve_248 rfl ?_
            first | refine awN_imul e_Mo_solve_249 ?_ | refine aw_imul e_Mo_solve_249 ?_
            refine aw_iload e_Mo_solve_250 rfl ?_
            first | refine awN_iadd e_Mo_solve_252 ?_ | refine aw_iadd e_Mo_solve_252 ?_
            refine aw_lalE e_Mo_solve_253 rfl (show _ < 600 by omega) (by omega) ((TM_v hT2 hk h206).trans (by rw [clN_k hmk])) ?_
            refine awN_lmul e_Mo_solve_254 ?_
            refine aw_lsub e_Mo_solve_255 ?_
            refine aw_cS1 e_Mo_solve_256 ml_Mo_90 mf_Mo_worthOf ms_Mo_worthOf (c_Mo_worthOf ?_)
            rw [sub_lT (hT.2.2 m j h182 h206).2 (hT.2.2 m c h182 (by omega)).2 (hT.2.2 k j hk h206).2]
            refine aw_last e_Mo_solve_259 rfl (show _ < 600 by omega) (by omega) ?_
            refine aw_inc10 e_Mo_solve_260 (inc1 _) ?_
            refine aw_goto e_Mo_solve_263 ?_
            exact ihj h206 _ (TM_cg (TM_set hT2 h182 h206 (wof_lt _)) (fun r c hr hc => clN_s hmk)) (frT_s hf2)
      exact k202 0 (by omega) L1 (TM_cg hT1 (fun r c hr hc => clN_0)) hf1
