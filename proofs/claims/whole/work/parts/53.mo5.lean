/-! ===== the model: laws of joins, of a part ===== -/
theorem up_str {P : Nat → Prop} {N : Nat} (h : ∀ i, i ≤ N → (∀ j, i < j → j ≤ N → P j) → P i) : ∀ i, i ≤ N → P i := by
  have key : ∀ n i, i + n = N → P i := by
    intro n
    induction n using Nat.strongRecOn with
    | _ n ih => intro i hi; exact h i (by omega) (fun j h1 h2 => ih (N - j) (by omega) j (by omega))
  intro i hi
  exact key (N - i) i (by omega)
theorem fb_sp {V : Mc} {p s : Nat} (hs : s ≤ nB V) : fb V p s ≤ nB V ∧ s ≤ fb V p s ∧ (fb V p s < nB V → atB V p (fb V p s) = true) ∧ ∀ j, s ≤ j → j < fb V p s → atB V p j = false := fst_spec _ _ s hs
def JM (V : Mc) (p so w n : Nat) (A : Nat → Nat → Nat) (f s m : Nat) (A1 : Nat → Nat → Nat) : Prop :=
  m + 1 = n + cnt (atB V p) s ∧ ∀ x, xb w x → ((∀ r, r < m → eqn w (A1 r) x) ↔ (∀ r, r < n → eqn w (A r) x) ∧ ∀ b, f < b → b < s → atB V p b = true → x (2 * f + so) = x (2 * b + so))
theorem JM_0 {V : Mc} {p so w n : Nat} {A : Nat → Nat → Nat} {f : Nat} (h : ∀ j, j < f → atB V p j = false) (hf : atB V p f = true) : JM V p so w n A f (f + 1) n A := by
  refine ⟨by rw [cnt_t hf, cnt_z f h], fun x hx => ⟨fun q => ⟨q, fun b h1 h2 => absurd h1 (by omega)⟩, fun q => q.1⟩⟩
theorem cnt_gap {P : Nat → Bool} {s b : Nat} (hs : s ≤ b) (h : ∀ j, s ≤ j → j < b → P j = false) : cnt P b = cnt P s := by
  obtain ⟨k, rfl⟩ : ∃ k, b = s + k := ⟨b - s, by omega⟩
  exact cnt_from k (fun j h1 h2 => h j h1 h2)
theorem JM_s {V : Mc} {p so w n : Nat} {A A1 : Nat → Nat → Nat} {f s m b : Nat} {row : Nat → Nat} (h : JM V p so w n A f s m A1) (hfs : f < s) (hs : s ≤ b) (hg : ∀ j, s ≤ j → j < b → atB V p j = false) (hb : atB V p b = true) (he : ∀ x, xb w x → (eqn w row x ↔ x (2 * f + so) = x (2 * b + so))) : JM V p so w n A f (b + 1) (m + 1) (addR m A1 row) := by
  refine ⟨by rw [cnt_t hb, cnt_gap hs hg]; have := h.1; omega, fun x hx => one_row.trans ?_⟩
  rw [h.2 x hx, he x hx]
  constructor
  · intro q
    refine ⟨q.1.1, fun c h1 h2 h3 => ?_⟩
    by_cases e : c = b
    · rw [e]; exact q.2
    · by_cases e2 : c < s
      · exact q.1.2 c h1 e2 h3
      · rw [hg c (by omega) (by omega)] at h3; cases h3
  · intro q
    exact ⟨⟨q.1, fun c h1 h2 h3 => q.2 c h1 (by omega) h3⟩, q.2 b (by omega) (by omega) hb⟩
theorem row_eq1 {w o1 o2 : Nat} {x : Nat → Nat} (h1 : o1 < w) (h2 : o2 < w) (hne : o1 ≠ o2) (hw : w ≤ 24) (hx : xb w x) : eqn w (fwr w (rwT o1 o2 1)) x ↔ x o2 = x o1 := by
  rw [eqn_cg (fwr_T h1 h2 hw), rwT_eqn h1 h2 hne (by decide) hx, Nat.one_mul, Nat.mod_eq_of_lt (hx o2 h2)]
  exact eq_comm
theorem smR_gap {V : Mc} {p so s b : Nat} (hs : s ≤ b) (h : ∀ j, s ≤ j → j < b → atB V p j = false) : smR V p so b = smR V p so s := by
  obtain ⟨k, rfl⟩ : ∃ k, b = s + k := ⟨b - s, by omega⟩
  clear hs
  induction k with
  | zero => rfl
  | succ k ih =>
    rw [← ih (fun j h1 h2 => h j h1 (by omega))]
    funext j
    show (if atB V p (s + k) = true ∧ j = 2 * (s + k) + (1 - so) then _ else smR V p so (s + k) j) = _
    rw [if_neg (fun z => by rw [h (s + k) (by omega) (by omega)] at z; cases z.1)]
theorem cmI_T {V : Mc} {b p : Nat} (h : atB V p b = true) : (cmI V b p).toInt = if bT V b = p then 1 else -1 := by
  unfold cmI
  by_cases h1 : bT V b = p
  · rw [if_pos h1, if_pos h1]; decide
  · rw [if_neg h1, if_neg h1]
    by_cases h2 : bF V b = p
    · rw [if_pos h2]; decide
    · rw [atB_N h2 h1] at h; cases h
theorem smR_put {V : Mc} {p so b : Nat} (h : atB V p b = true) : ∀ j, j < 25 → smR V p so (b + 1) j = if j = 2 * b + (1 - so) then wof ((smR V p so b j : Int) + (cmI V b p).toInt64.toInt) else smR V p so b j := fun j _ => by
  show (if atB V p b = true ∧ j = 2 * b + (1 - so) then (if bT V b = p then 1 else 1000002) else smR V p so b j) = _
  rw [Int32.toInt_toInt64, cmI_T h]
  by_cases e : j = 2 * b + (1 - so)
  · rw [if_pos ⟨h, e⟩, if_pos e, smR_hi V p so b j (by omega)]
    by_cases h1 : bT V b = p
    · rw [if_pos h1, if_pos h1]; decide
    · rw [if_neg h1, if_neg h1]; decide
  · rw [if_neg (fun z => e z.2), if_neg e]
theorem JM_end {V : Mc} {p so w n : Nat} {F F1 : Nat → Nat → Nat} {s m : Nat} (hL : LWI V w p n (fw w F)) (hwV : w = 2 * nB V) (hw24 : w ≤ 24) (h5 : pP V p 0 = 5) (hso : so = pP V p 1) (hf0 : ∀ j, j < fb V p 0 → atB V p j = false) (h : JM V p so w n (fw w F) (fb V p 0) s m (fw w F1)) (hs : s ≤ nB V) (hg : ∀ j, s ≤ j → j < nB V → atB V p j = false) : m + 1 = n + ends V p ∧ LWI V w (p + 1) (n + ends V p) (fw w (addR m F1 (smR V p so (nB V)))) := by
  have hm : m + 1 = n + ends V p := by
    rw [h.1]
    unfold ends
    rw [cnt_gap hs hg]
  refine ⟨hm, LWI_join hL hwV h5 (fun x hx => ?_)⟩
  rw [← hm, fw_add]
  refine one_row.trans ?_
  rw [h.2 x hx, eqn_cg (a := fwr w (smR V p so (nB V))) (b := smR V p so (nB V)) (fun c hc => ?_), hso]
  · constructor
    · intro q
      refine ⟨q.1.1, q.2, fun b h1 h2 => ?_⟩
      by_cases e1 : b < fb V p 0
      · rw [hf0 b e1] at h2; cases h2
      · by_cases e2 : b = fb V p 0
        · rw [e2]
        · by_cases e3 : b < s
          · exact q.1.2 b (by omega) e3 h2
          · rw [hg b (by omega) h1] at h2; cases h2
    · intro q
      exact ⟨⟨q.1, fun b h1 h2 h3 => q.2.2 b (by omega) h3⟩, q.2.1⟩
  · unfold fwr
    by_cases e : c < w
    · rw [if_pos e]
    · rw [if_neg e, smR_hi _ _ _ _ _ (by omega), smR_hi _ _ _ _ _ (by omega)]
theorem c_Mo_lawsOfJoin {l : Launch} {E : En} {d : Nat} {I : It} {L : Lt} {R : Rt} {Z : Zt} {Q : Qt} {V : Mc} (hS : Sta R) (hC : MC I 0 V) (hW : WF V) {n w : Nat} {F : Nat → Nat → Nat} (hT : TM I L n F) (hwV : w = 2 * nB V) {p : Nat} (hp : p < nP V) (hL : LWI V w p n (fw w F)) (h5 : pP V p 0 = 5) (he : 2 ≤ ends V p) (hn : n + ends V p ≤ 24) (hQ : ∀ I2 L2 F2 m, TM I2 L2 m F2 → LWI V w (p + 1) m (fw w F2) → fl I I2 → frT L L2 → Q none I2 L2 R Z) : AMet l E (d + 2) M_Mo_lawsOfJoin [vr 9 0, vi (nI p)] I L R Z Q := by
  have hnb := hW.1.2.1
  have hnp := hW.1.1
  have hnx := hW.1.2.2.1
  have hns := hW.1.2.2.2
  have hv := hW.2.1 p hp
  have hw24 : w ≤ 24 := by omega
  have hf := fb_0 (V := V) (p := p) (by omega)
  refine AMet.of mf_Mo_lawsOfJoin rfl (Nat.le_of_ble_eq_true rfl) ?_
  have k23 : ∀ s, s ≤ nB V → fb V p 0 < s → ∀ m I1 L1 F1, TM I1 L1 m F1 → fl I I1 → frT L L1 → JM V p (pP V p 1) w n (fw w F) (fb V p 0) s m (fw w F1) → AWq l E (d + 2) M_Mo_lawsOfJoin Z 23 [some (vr 9 0), some (vi (nI p)), some (vi (nI (pP V p 1))), some (vi (nI (fb V p 0))), some (vi (bnd V p s))] [] I1 L1 R Z Q := by
    refine up_str (fun s hs ih hfs0 m I1 L1 F1 hT1 hfl1 hf1 hJ => ?_)
    have hfs := fb_sp (V := V) (p := p) hs
    have hC1 : MC I1 0 V := hfl1.C hC
    have hJ1 := hJ.1
    by_cases hfb : fb V p s < nB V
    · rw [show bnd V p s = nI (fb V p s) from if_pos hfb]
      have hfs1 : s ≤ fb V p s := hfs.2.1
      have hcl : cnt (atB V p) (fb V p s + 1) ≤ ends V p := by
        obtain ⟨k, hk⟩ : ∃ k, nB V = fb V p s + 1 + k := ⟨nB V - (fb V p s + 1), by omega⟩
        unfold ends
        rw [hk]
        exact cnt_mono k
      rw [cnt_t (hfs.2.2.1 hfb), cnt_gap hfs1 hfs.2.2.2] at hcl
      refine aw_iload e_Mo_lawsOfJoin_23 rfl ?_
      refine awN_if_lt e_Mo_lawsOfJoin_25 (by omega) ?_
      refine aw_aload_n e_Mo_lawsOfJoin_28 rfl ?_
      refine aw_cV0 e_Mo_lawsOfJoin_29 ml_Mo_156 mf_Mo_line mv_Mo_line (c_Mo_line hS hT1 (by omega) (fun L2 hT2 hf2 => ?_))
      refine aw_aload_n e_Mo_lawsOfJoin_32 rfl ?_
      refine aw_iload e_Mo_lawsOfJoin_33 rfl ?_
      refine aw_iload_n e_Mo_lawsOfJoin_35 rfl ?_
      refine aw_lconst (v := lN 1) e_Mo_lawsOfJoin_36 rfl ?_
      refine aw_cV3 e_Mo_lawsOfJoin_37 ml_Mo_159 mf_Mo_put mv_Mo_put (c_Mo_put (row2 := fun j => if j = 2 * fb V p s + pP V p 1 then 1 else 0) hS hT2 (by omega) (by rw [pk_lT (by decide)]; decide) one_put (fun L3 hT3 hf3 => ?_))
      refine aw_aload_n e_Mo_lawsOfJoin_40 rfl ?_
      refine aw_iload_n e_Mo_lawsOfJoin_41 rfl ?_
      refine aw_iload_n e_Mo_lawsOfJoin_42 rfl ?_
      refine aw_ldc2 (v := -1) e_Mo_lawsOfJoin_43 kl_Mo_163 ?_
      refine aw_cV3 e_Mo_lawsOfJoin_46 ml_Mo_159 mf_Mo_put mv_Mo_put (c_Mo_put (row2 := rwT (2 * fb V p s + pP V p 1) (2 * fb V p 0 + pP V p 1) 1) hS hT3 (by omega) (by decide) (rwT_put (by decide) (by decide) (by omega)) (fun L4 hT4 hf4 => ?_))
      refine aw_aload_n e_Mo_lawsOfJoin_49 rfl ?_
      refine aw_iload_n e_Mo_lawsOfJoin_50 rfl ?_
      refine aw_iload e_Mo_lawsOfJoin_51 rfl ?_
      refine aw_iconst (v := nI 1) e_Mo_lawsOfJoin_53 (by decide) ?_
      first | refine awN_iadd e_Mo_lawsOfJoin_54 ?_ | refine aw_iadd e_Mo_lawsOfJoin_54 ?_
      refine aw_cV2 e_Mo_lawsOfJoin_55 ml_Mo_150 mf_Mo_bondOf mv_Mo_bondOf (c_Mo_bondOf hS (MC.keep hC1 (sI_n (by omega))) hW (by omega) (by omega) ?_)
      refine aw_ist4 e_Mo_lawsOfJoin_58 ?_
      refine aw_goto e_Mo_lawsOfJoin_60 ?_
      exact ih (fb V p s + 1) (by omega) (by omega) (by omega) _ _ _ _ hT4 (fl_s hfl1) (frT_t (frT_t (frT_t hf1 hf2) hf3) hf4) (by rw [fw_add]; exact JM_s hJ hfs0 hfs1 hfs.2.2.2 (hfs.2.2.1 hfb) (fun x hx => row_eq1 (by omega) (by omega) (by omega) hw24 hx))
    · rw [show bnd V p s = -1 from if_neg hfb]
      have hcl : cnt (atB V p) s ≤ ends V p := by
        obtain ⟨k, hk⟩ : ∃ k, nB V = s + k := ⟨nB V - s, by omega⟩
        unfold ends
        rw [hk]
        exact cnt_mono k
      refine aw_iload e_Mo_lawsOfJoin_23 rfl ?_
      refine aw_if_lt e_Mo_lawsOfJoin_25 (fun h25 => ?_) (fun h25 => ?_)
      · have hgp : ∀ j, s ≤ j → j < nB V → atB V p j = false := fun j h1 h2 => hfs.2.2.2 j h1 (by omega)
        have hje := JM_end hL hwV hw24 h5 rfl hf.2.2.1 hJ hs hgp
        refine aw_aload_n e_Mo_lawsOfJoin_63 rfl ?_
        refine aw_cV0 e_Mo_lawsOfJoin_64 ml_Mo_156 mf_Mo_line mv_Mo_line (c_Mo_line hS hT1 (by omega) (fun L2 hT2 hf2 => ?_))
        have hT3 := hT2
        replace hT2 := 0
        clear hT2
        have k70 : ∀ s, s ≤ nB V → ∀ L3, TM (sI I1 9 0 13 (nI (m + 1))) L3 (m + 1) (addR m F1 (smR V p (pP V p 1) s)) → frT L L3 → AWq l E (d + 2) M_Mo_lawsOfJoin Z 70 [some (vr 9 0), some (vi (nI p)), some (vi (nI (pP V p 1))), some (vi (nI (fb V p 0))), some (vi (bnd V p s))] [] (sI I1 9 0 13 (nI (m + 1))) L3 R Z Q := by
          refine up_str (fun s hs ih L3 hT3 hf3 => ?_)
          have hfs := fb_sp (V := V) (p := p) hs
          by_cases hfb : fb V p s < nB V
          · rw [show bnd V p s = nI (fb V p s) from if_pos hfb]
            have hfs1 : s ≤ fb V p s := hfs.2.1
            refine aw_iload e_Mo_lawsOfJoin_70 rfl ?_
            refine awN_if_lt e_Mo_lawsOfJoin_72 (by omega) ?_
            refine aw_aload_n e_Mo_lawsOfJoin_75 rfl ?_
            refine aw_iload e_Mo_lawsOfJoin_76 rfl ?_
            refine aw_iconst (v := nI 1) e_Mo_lawsOfJoin_78 (by decide) ?_
            refine aw_iload_n e_Mo_lawsOfJoin_79 rfl ?_
            refine awN_isub e_Mo_lawsOfJoin_80 (by omega) ?_
            refine aw_aload_n e_Mo_lawsOfJoin_81 rfl ?_
            refine aw_iload e_Mo_lawsOfJoin_82 rfl ?_
            refine aw_iload_n e_Mo_lawsOfJoin_84 rfl ?_
            refine aw_cV2 e_Mo_lawsOfJoin_85 ml_Mo_109 mf_Mo_comes mv_Mo_comes (c_Mo_comes hS (MC.keep hC1 (sI_n (by omega))) hW hfb (by omega) ?_)
            refine aw_i2l e_Mo_lawsOfJoin_88 ?_
            refine aw_cV3 e_Mo_lawsOfJoin_89 ml_Mo_159 mf_Mo_put mv_Mo_put (c_Mo_put (row2 := smR V p (pP V p 1) (fb V p s + 1)) hS (smR_gap hfs.2.1 hfs.2.2.2 ▸ hT3) (by omega) (by rw [Int32.toInt_toInt64, cmI_T (hfs.2.2.1 hfb)]; split <;> omega) (smR_put (hfs.2.2.1 hfb)) (fun L4 hT4 hf4 => ?_))
            refine aw_aload_n e_Mo_lawsOfJoin_92 rfl ?_
            refine aw_iload_n e_Mo_lawsOfJoin_93 rfl ?_
            refine aw_iload e_Mo_lawsOfJoin_94 rfl ?_
            refine aw_iconst (v := nI 1) e_Mo_lawsOfJoin_96 (by decide) ?_
            first | refine awN_iadd e_Mo_lawsOfJoin_97 ?_ | refine aw_iadd e_Mo_lawsOfJoin_97 ?_
            refine aw_cV2 e_Mo_lawsOfJoin_98 ml_Mo_150 mf_Mo_bondOf mv_Mo_bondOf (c_Mo_bondOf hS (MC.keep hC1 (sI_n (by omega))) hW (by omega) (by omega) ?_)
            refine aw_ist4 e_Mo_lawsOfJoin_101 ?_
            refine aw_goto e_Mo_lawsOfJoin_103 ?_
            exact ih (fb V p s + 1) (by omega) (by omega) _ hT4 (frT_t hf3 hf4)
          · rw [show bnd V p s = -1 from if_neg hfb]
            refine aw_iload e_Mo_lawsOfJoin_70 rfl ?_
            refine aw_if_lt e_Mo_lawsOfJoin_72 (fun h72 => ?_) (fun h72 => ?_)
            · have hgp : ∀ j, s ≤ j → j < nB V → atB V p j = false := fun j h1 h2 => hfs.2.2.2 j h1 (by omega)
              exact aw_vret e_Mo_lawsOfJoin_106 rfl (hQ _ _ _ _ (hje.1 ▸ (smR_gap (so := pP V p 1) hs hgp ▸ hT3)) hje.2 (fl_s hfl1) hf3)
            · exact absurd (show (-1 : Int32) < 0 by decide) h72
        refine aw_iload_n e_Mo_lawsOfJoin_67 rfl ?_
        refine aw_ist4 e_Mo_lawsOfJoin_68 ?_
        have k := k70 0 (by omega) L2 hT3 (frT_t hf1 hf2)
        rw [hf.2.2.2] at k
        exact k
      · exact absurd (show (-1 : Int32) < 0 by decide) h25
  refine aw_aload_n e_Mo_lawsOfJoin_0 rfl ?_
  refine aw_iload_n e_Mo_lawsOfJoin_1 rfl ?_
  refine aw_cV1 e_Mo_lawsOfJoin_2 ml_Mo_153 mf_Mo_sortOf mv_Mo_sortOf (c_Mo_sortOf hS hC hW hp ?_)
  refine aw_ist2 e_Mo_lawsOfJoin_5 ?_
  refine aw_aload_n e_Mo_lawsOfJoin_6 rfl ?_
  refine aw_iload_n e_Mo_lawsOfJoin_7 rfl ?_
  refine aw_iconst (v := nI 0) e_Mo_lawsOfJoin_8 (by decide) ?_
  refine aw_cV2 e_Mo_lawsOfJoin_9 ml_Mo_150 mf_Mo_bondOf mv_Mo_bondOf (c_Mo_bondOf hS hC hW (by omega) (by omega) ?_)
  rw [hf.2.2.2]
  refine aw_ist3 e_Mo_lawsOfJoin_12 ?_
  refine aw_aload_n e_Mo_lawsOfJoin_13 rfl ?_
  refine aw_iload_n e_Mo_lawsOfJoin_14 rfl ?_
  refine aw_iload_n e_Mo_lawsOfJoin_15 rfl ?_
  refine aw_iconst (v := nI 1) e_Mo_lawsOfJoin_16 (by decide) ?_
  first | refine awN_iadd e_Mo_lawsOfJoin_17 ?_ | refine aw_iadd e_Mo_lawsOfJoin_17 ?_
  refine aw_cV2 e_Mo_lawsOfJoin_18 ml_Mo_150 mf_Mo_bondOf mv_Mo_bondOf (c_Mo_bondOf hS hC hW (by omega) (by omega) ?_)
  refine aw_ist4 e_Mo_lawsOfJoin_21 ?_
  exact k23 _ (by omega) (by omega) n I L F hT fl_0 frT_0 (JM_0 hf.2.2.1 hf.2.1)
