/-! ===== calls by the number of their arguments, compares of counted numbers, truth values ===== -/
def bI (c : Prop) [Decidable c] : Int32 := if c then nI 1 else nI 0
theorem bI_t {c : Prop} [Decidable c] (h : c) : bI c = nI 1 := if_pos h
theorem bI_f {c : Prop} [Decidable c] (h : ¬ c) : bI c = nI 0 := if_neg h
theorem nb_bI (c : Prop) [Decidable c] : narrow .boolean (.int (bI c)) = .int (bI c) := by
  by_cases h : c
  · rw [bI_t h]; rfl
  · rw [bI_f h]; rfl
theorem bI_iff {c e : Prop} [Decidable c] [Decidable e] (h : c ↔ e) : bI c = bI e := by
  by_cases h1 : c
  · rw [bI_t h1, bI_t (h.mp h1)]
  · rw [bI_f h1, bI_f (fun q => h1 (h.mpr q))]
theorem bI_0 (c : Prop) [Decidable c] : bI c = 0 ↔ ¬ c := by
  by_cases h : c
  · rw [bI_t h]; exact ⟨fun q => absurd q (by decide), fun q => absurd h q⟩
  · rw [bI_f h]; exact ⟨fun _ => h, fun _ => rfl⟩
theorem inc1 (a : Nat) : nI a + Int32.ofInt 1 = nI (a + 1) := nI_1 a
theorem decm1 {a : Nat} (h : 0 < a) : nI a + Int32.ofInt (-1) = nI (a - 1) := by
  obtain ⟨b, rfl⟩ : ∃ b, a = b + 1 := ⟨a - 1, by omega⟩
  exact pk_m1 b
section WRAP
variable {l : Launch} {E : En} {d : Nat} {M M2 : Mt} {Z0 : Zt} {pc pc2 tgt n : Nat} {ls : List (Option AV)} {st : List AV} {I : It} {L : Lt} {R : Rt} {Z : Zt} {Q : Qt}
theorem aw_cV0 {idx t i : Nat} (hd : Dc M pc (.invokevirtual idx) 3 pc2) (hlk : Cond.methodLink M.1.cls idx M2.1 ∈ G) (hf : MF M2 0) (hv : MV M2) (hm : AMet l E d M2 (vr t i :: []) I L R Z (fun r I1 L1 R1 Z1 => AWq l E (d + 1) M Z0 pc2 ls (rst r st) I1 L1 R1 Z1 Q)) (ht : t < 10 ∧ Rn t = M2.1.cls := by exact ⟨by decide, rfl⟩) (hw : Nat.ble (st.map wd).sum 8 = true := by rfl) : AWq l E (d + 1) M Z0 pc ls (vr t i :: st) I L R Z Q :=
  aw_callV (as := []) hd hlk hf hv ht rfl (Nat.le_of_ble_eq_true hw) hm
theorem aw_cVS0 {idx i : Nat} (hd : Dc M pc (.invokevirtual idx) 3 pc2) (hlk : Cond.methodLink M.1.cls idx M2.1 ∈ G) (hf : MF M2 0) (hv : MV M2) (hi : i < 2) (hm : AMet l E d M2 (vr 51 i :: []) I L R Z (fun r I1 L1 R1 Z1 => AWq l E (d + 1) M Z0 pc2 ls (rst r st) I1 L1 R1 Z1 Q)) (ht : M2.1.cls = "java/lang/String" := by rfl) (hw : Nat.ble (st.map wd).sum 8 = true := by rfl) : AWq l E (d + 1) M Z0 pc ls (vr 51 i :: st) I L R Z Q :=
  aw_callVS (as := []) hd hlk hf hv ht hi rfl (Nat.le_of_ble_eq_true hw) hm
theorem aw_cI0 {idx t i : Nat} (hd : Dc M pc (.invokespecial idx) 3 pc2) (hlk : Cond.methodLink M.1.cls idx M2.1 ∈ G) (hf : MF M2 0) (hv : MI M2) (hm : AMet l E d M2 (vr t i :: []) I L R Z (fun r I1 L1 R1 Z1 => AWq l E (d + 1) M Z0 pc2 ls (rst r st) I1 L1 R1 Z1 Q)) (hw : Nat.ble (st.map wd).sum 8 = true := by rfl) : AWq l E (d + 1) M Z0 pc ls (vr t i :: st) I L R Z Q :=
  aw_callI (as := []) hd hlk hf hv rfl (Nat.le_of_ble_eq_true hw) hm
theorem aw_cIN0 {idx t i : Nat} (hd : Dc M pc (.invokespecial idx) 3 pc2) {host : String} (hlk : Cond.methodLinkNest M.1.cls idx M2.1 host ∈ Gn) (hf : MF M2 0) (hv : MI M2) (hm : AMet l E d M2 (vr t i :: []) I L R Z (fun r I1 L1 R1 Z1 => AWq l E (d + 1) M Z0 pc2 ls (rst r st) I1 L1 R1 Z1 Q)) (hw : Nat.ble (st.map wd).sum 8 = true := by rfl) : AWq l E (d + 1) M Z0 pc ls (vr t i :: st) I L R Z Q :=
  aw_callIN (as := []) hd hlk hf hv rfl (Nat.le_of_ble_eq_true hw) hm
theorem aw_cS0 {idx : Nat} (hd : Dc M pc (.invokestatic idx) 3 pc2) (hlk : Cond.methodLink M.1.cls idx M2.1 ∈ G) (hf : MF M2 0) (hv : MS M2) (hm : AMet l E d M2 ([]) I L R Z (fun r I1 L1 R1 Z1 => AWq l E (d + 1) M Z0 pc2 ls (rst r st) I1 L1 R1 Z1 Q)) (hw : Nat.ble (st.map wd).sum 8 = true := by rfl) : AWq l E (d + 1) M Z0 pc ls (st) I L R Z Q :=
  aw_callS (as := []) hd hlk hf hv rfl (Nat.le_of_ble_eq_true hw) hm
theorem aw_cSN0 {idx : Nat} (hd : Dc M pc (.invokestatic idx) 3 pc2) {host : String} (hlk : Cond.methodLinkNest M.1.cls idx M2.1 host ∈ Gn) (hf : MF M2 0) (hv : MS M2) (hm : AMet l E d M2 ([]) I L R Z (fun r I1 L1 R1 Z1 => AWq l E (d + 1) M Z0 pc2 ls (rst r st) I1 L1 R1 Z1 Q)) (hw : Nat.ble (st.map wd).sum 8 = true := by rfl) : AWq l E (d + 1) M Z0 pc ls (st) I L R Z Q :=
  aw_callSN (as := []) hd hlk hf hv rfl (Nat.le_of_ble_eq_true hw) hm
theorem aw_cV1 {idx t i : Nat} {a0 : AV} (hd : Dc M pc (.invokevirtual idx) 3 pc2) (hlk : Cond.methodLink M.1.cls idx M2.1 ∈ G) (hf : MF M2 1) (hv : MV M2) (hm : AMet l E d M2 (vr t i :: a0 :: []) I L R Z (fun r I1 L1 R1 Z1 => AWq l E (d + 1) M Z0 pc2 ls (rst r st) I1 L1 R1 Z1 Q)) (ht : t < 10 ∧ Rn t = M2.1.cls := by exact ⟨by decide, rfl⟩) (hw : Nat.ble (st.map wd).sum 8 = true := by rfl) : AWq l E (d + 1) M Z0 pc ls (a0 :: vr t i :: st) I L R Z Q :=
  aw_callV (as := [a0]) hd hlk hf hv ht rfl (Nat.le_of_ble_eq_true hw) hm
theorem aw_cVS1 {idx i : Nat} {a0 : AV} (hd : Dc M pc (.invokevirtual idx) 3 pc2) (hlk : Cond.methodLink M.1.cls idx M2.1 ∈ G) (hf : MF M2 1) (hv : MV M2) (hi : i < 2) (hm : AMet l E d M2 (vr 51 i :: a0 :: []) I L R Z (fun r I1 L1 R1 Z1 => AWq l E (d + 1) M Z0 pc2 ls (rst r st) I1 L1 R1 Z1 Q)) (ht : M2.1.cls = "java/lang/String" := by rfl) (hw : Nat.ble (st.map wd).sum 8 = true := by rfl) : AWq l E (d + 1) M Z0 pc ls (a0 :: vr 51 i :: st) I L R Z Q :=
  aw_callVS (as := [a0]) hd hlk hf hv ht hi rfl (Nat.le_of_ble_eq_true hw) hm
theorem aw_cI1 {idx t i : Nat} {a0 : AV} (hd : Dc M pc (.invokespecial idx) 3 pc2) (hlk : Cond.methodLink M.1.cls idx M2.1 ∈ G) (hf : MF M2 1) (hv : MI M2) (hm : AMet l E d M2 (vr t i :: a0 :: []) I L R Z (fun r I1 L1 R1 Z1 => AWq l E (d + 1) M Z0 pc2 ls (rst r st) I1 L1 R1 Z1 Q)) (hw : Nat.ble (st.map wd).sum 8 = true := by rfl) : AWq l E (d + 1) M Z0 pc ls (a0 :: vr t i :: st) I L R Z Q :=
  aw_callI (as := [a0]) hd hlk hf hv rfl (Nat.le_of_ble_eq_true hw) hm
theorem aw_cIN1 {idx t i : Nat} {a0 : AV} (hd : Dc M pc (.invokespecial idx) 3 pc2) {host : String} (hlk : Cond.methodLinkNest M.1.cls idx M2.1 host ∈ Gn) (hf : MF M2 1) (hv : MI M2) (hm : AMet l E d M2 (vr t i :: a0 :: []) I L R Z (fun r I1 L1 R1 Z1 => AWq l E (d + 1) M Z0 pc2 ls (rst r st) I1 L1 R1 Z1 Q)) (hw : Nat.ble (st.map wd).sum 8 = true := by rfl) : AWq l E (d + 1) M Z0 pc ls (a0 :: vr t i :: st) I L R Z Q :=
  aw_callIN (as := [a0]) hd hlk hf hv rfl (Nat.le_of_ble_eq_true hw) hm
theorem aw_cS1 {idx : Nat} {a0 : AV} (hd : Dc M pc (.invokestatic idx) 3 pc2) (hlk : Cond.methodLink M.1.cls idx M2.1 ∈ G) (hf : MF M2 1) (hv : MS M2) (hm : AMet l E d M2 ([a0]) I L R Z (fun r I1 L1 R1 Z1 => AWq l E (d + 1) M Z0 pc2 ls (rst r st) I1 L1 R1 Z1 Q)) (hw : Nat.ble (st.map wd).sum 8 = true := by rfl) : AWq l E (d + 1) M Z0 pc ls (a0 :: st) I L R Z Q :=
  aw_callS (as := [a0]) hd hlk hf hv rfl (Nat.le_of_ble_eq_true hw) hm
theorem aw_cSN1 {idx : Nat} {a0 : AV} (hd : Dc M pc (.invokestatic idx) 3 pc2) {host : String} (hlk : Cond.methodLinkNest M.1.cls idx M2.1 host ∈ Gn) (hf : MF M2 1) (hv : MS M2) (hm : AMet l E d M2 ([a0]) I L R Z (fun r I1 L1 R1 Z1 => AWq l E (d + 1) M Z0 pc2 ls (rst r st) I1 L1 R1 Z1 Q)) (hw : Nat.ble (st.map wd).sum 8 = true := by rfl) : AWq l E (d + 1) M Z0 pc ls (a0 :: st) I L R Z Q :=
  aw_callSN (as := [a0]) hd hlk hf hv rfl (Nat.le_of_ble_eq_true hw) hm
theorem aw_cV2 {idx t i : Nat} {a0 a1 : AV} (hd : Dc M pc (.invokevirtual idx) 3 pc2) (hlk : Cond.methodLink M.1.cls idx M2.1 ∈ G) (hf : MF M2 2) (hv : MV M2) (hm : AMet l E d M2 (vr t i :: a0 :: a1 :: []) I L R Z (fun r I1 L1 R1 Z1 => AWq l E (d + 1) M Z0 pc2 ls (rst r st) I1 L1 R1 Z1 Q)) (ht : t < 10 ∧ Rn t = M2.1.cls := by exact ⟨by decide, rfl⟩) (hw : Nat.ble (st.map wd).sum 8 = true := by rfl) : AWq l E (d + 1) M Z0 pc ls (a1 :: a0 :: vr t i :: st) I L R Z Q :=
  aw_callV (as := [a0, a1]) hd hlk hf hv ht rfl (Nat.le_of_ble_eq_true hw) hm
theorem aw_cVS2 {idx i : Nat} {a0 a1 : AV} (hd : Dc M pc (.invokevirtual idx) 3 pc2) (hlk : Cond.methodLink M.1.cls idx M2.1 ∈ G) (hf : MF M2 2) (hv : MV M2) (hi : i < 2) (hm : AMet l E d M2 (vr 51 i :: a0 :: a1 :: []) I L R Z (fun r I1 L1 R1 Z1 => AWq l E (d + 1) M Z0 pc2 ls (rst r st) I1 L1 R1 Z1 Q)) (ht : M2.1.cls = "java/lang/String" := by rfl) (hw : Nat.ble (st.map wd).sum 8 = true := by rfl) : AWq l E (d + 1) M Z0 pc ls (a1 :: a0 :: vr 51 i :: st) I L R Z Q :=
  aw_callVS (as := [a0, a1]) hd hlk hf hv ht hi rfl (Nat.le_of_ble_eq_true hw) hm
theorem aw_cI2 {idx t i : Nat} {a0 a1 : AV} (hd : Dc M pc (.invokespecial idx) 3 pc2) (hlk : Cond.methodLink M.1.cls idx M2.1 ∈ G) (hf : MF M2 2) (hv : MI M2) (hm : AMet l E d M2 (vr t i :: a0 :: a1 :: []) I L R Z (fun r I1 L1 R1 Z1 => AWq l E (d + 1) M Z0 pc2 ls (rst r st) I1 L1 R1 Z1 Q)) (hw : Nat.ble (st.map wd).sum 8 = true := by rfl) : AWq l E (d + 1) M Z0 pc ls (a1 :: a0 :: vr t i :: st) I L R Z Q :=
  aw_callI (as := [a0, a1]) hd hlk hf hv rfl (Nat.le_of_ble_eq_true hw) hm
theorem aw_cIN2 {idx t i : Nat} {a0 a1 : AV} (hd : Dc M pc (.invokespecial idx) 3 pc2) {host : String} (hlk : Cond.methodLinkNest M.1.cls idx M2.1 host ∈ Gn) (hf : MF M2 2) (hv : MI M2) (hm : AMet l E d M2 (vr t i :: a0 :: a1 :: []) I L R Z (fun r I1 L1 R1 Z1 => AWq l E (d + 1) M Z0 pc2 ls (rst r st) I1 L1 R1 Z1 Q)) (hw : Nat.ble (st.map wd).sum 8 = true := by rfl) : AWq l E (d + 1) M Z0 pc ls (a1 :: a0 :: vr t i :: st) I L R Z Q :=
  aw_callIN (as := [a0, a1]) hd hlk hf hv rfl (Nat.le_of_ble_eq_true hw) hm
theorem aw_cS2 {idx : Nat} {a0 a1 : AV} (hd : Dc M pc (.invokestatic idx) 3 pc2) (hlk : Cond.methodLink M.1.cls idx M2.1 ∈ G) (hf : MF M2 2) (hv : MS M2) (hm : AMet l E d M2 ([a0, a1]) I L R Z (fun r I1 L1 R1 Z1 => AWq l E (d + 1) M Z0 pc2 ls (rst r st) I1 L1 R1 Z1 Q)) (hw : Nat.ble (st.map wd).sum 8 = true := by rfl) : AWq l E (d + 1) M Z0 pc ls (a1 :: a0 :: st) I L R Z Q :=
  aw_callS (as := [a0, a1]) hd hlk hf hv rfl (Nat.le_of_ble_eq_true hw) hm
theorem aw_cSN2 {idx : Nat} {a0 a1 : AV} (hd : Dc M pc (.invokestatic idx) 3 pc2) {host : String} (hlk : Cond.methodLinkNest M.1.cls idx M2.1 host ∈ Gn) (hf : MF M2 2) (hv : MS M2) (hm : AMet l E d M2 ([a0, a1]) I L R Z (fun r I1 L1 R1 Z1 => AWq l E (d + 1) M Z0 pc2 ls (rst r st) I1 L1 R1 Z1 Q)) (hw : Nat.ble (st.map wd).sum 8 = true := by rfl) : AWq l E (d + 1) M Z0 pc ls (a1 :: a0 :: st) I L R Z Q :=
  aw_callSN (as := [a0, a1]) hd hlk hf hv rfl (Nat.le_of_ble_eq_true hw) hm
theorem aw_cV3 {idx t i : Nat} {a0 a1 a2 : AV} (hd : Dc M pc (.invokevirtual idx) 3 pc2) (hlk : Cond.methodLink M.1.cls idx M2.1 ∈ G) (hf : MF M2 3) (hv : MV M2) (hm : AMet l E d M2 (vr t i :: a0 :: a1 :: a2 :: []) I L R Z (fun r I1 L1 R1 Z1 => AWq l E (d + 1) M Z0 pc2 ls (rst r st) I1 L1 R1 Z1 Q)) (ht : t < 10 ∧ Rn t = M2.1.cls := by exact ⟨by decide, rfl⟩) (hw : Nat.ble (st.map wd).sum 8 = true := by rfl) : AWq l E (d + 1) M Z0 pc ls (a2 :: a1 :: a0 :: vr t i :: st) I L R Z Q :=
  aw_callV (as := [a0, a1, a2]) hd hlk hf hv ht rfl (Nat.le_of_ble_eq_true hw) hm
theorem aw_cVS3 {idx i : Nat} {a0 a1 a2 : AV} (hd : Dc M pc (.invokevirtual idx) 3 pc2) (hlk : Cond.methodLink M.1.cls idx M2.1 ∈ G) (hf : MF M2 3) (hv : MV M2) (hi : i < 2) (hm : AMet l E d M2 (vr 51 i :: a0 :: a1 :: a2 :: []) I L R Z (fun r I1 L1 R1 Z1 => AWq l E (d + 1) M Z0 pc2 ls (rst r st) I1 L1 R1 Z1 Q)) (ht : M2.1.cls = "java/lang/String" := by rfl) (hw : Nat.ble (st.map wd).sum 8 = true := by rfl) : AWq l E (d + 1) M Z0 pc ls (a2 :: a1 :: a0 :: vr 51 i :: st) I L R Z Q :=
  aw_callVS (as := [a0, a1, a2]) hd hlk hf hv ht hi rfl (Nat.le_of_ble_eq_true hw) hm
theorem aw_cI3 {idx t i : Nat} {a0 a1 a2 : AV} (hd : Dc M pc (.invokespecial idx) 3 pc2) (hlk : Cond.methodLink M.1.cls idx M2.1 ∈ G) (hf : MF M2 3) (hv : MI M2) (hm : AMet l E d M2 (vr t i :: a0 :: a1 :: a2 :: []) I L R Z (fun r I1 L1 R1 Z1 => AWq l E (d + 1) M Z0 pc2 ls (rst r st) I1 L1 R1 Z1 Q)) (hw : Nat.ble (st.map wd).sum 8 = true := by rfl) : AWq l E (d + 1) M Z0 pc ls (a2 :: a1 :: a0 :: vr t i :: st) I L R Z Q :=
  aw_callI (as := [a0, a1, a2]) hd hlk hf hv rfl (Nat.le_of_ble_eq_true hw) hm
theorem aw_cIN3 {idx t i : Nat} {a0 a1 a2 : AV} (hd : Dc M pc (.invokespecial idx) 3 pc2) {host : String} (hlk : Cond.methodLinkNest M.1.cls idx M2.1 host ∈ Gn) (hf : MF M2 3) (hv : MI M2) (hm : AMet l E d M2 (vr t i :: a0 :: a1 :: a2 :: []) I L R Z (fun r I1 L1 R1 Z1 => AWq l E (d + 1) M Z0 pc2 ls (rst r st) I1 L1 R1 Z1 Q)) (hw : Nat.ble (st.map wd).sum 8 = true := by rfl) : AWq l E (d + 1) M Z0 pc ls (a2 :: a1 :: a0 :: vr t i :: st) I L R Z Q :=
  aw_callIN (as := [a0, a1, a2]) hd hlk hf hv rfl (Nat.le_of_ble_eq_true hw) hm
theorem aw_cS3 {idx : Nat} {a0 a1 a2 : AV} (hd : Dc M pc (.invokestatic idx) 3 pc2) (hlk : Cond.methodLink M.1.cls idx M2.1 ∈ G) (hf : MF M2 3) (hv : MS M2) (hm : AMet l E d M2 ([a0, a1, a2]) I L R Z (fun r I1 L1 R1 Z1 => AWq l E (d + 1) M Z0 pc2 ls (rst r st) I1 L1 R1 Z1 Q)) (hw : Nat.ble (st.map wd).sum 8 = true := by rfl) : AWq l E (d + 1) M Z0 pc ls (a2 :: a1 :: a0 :: st) I L R Z Q :=
  aw_callS (as := [a0, a1, a2]) hd hlk hf hv rfl (Nat.le_of_ble_eq_true hw) hm
theorem aw_cSN3 {idx : Nat} {a0 a1 a2 : AV} (hd : Dc M pc (.invokestatic idx) 3 pc2) {host : String} (hlk : Cond.methodLinkNest M.1.cls idx M2.1 host ∈ Gn) (hf : MF M2 3) (hv : MS M2) (hm : AMet l E d M2 ([a0, a1, a2]) I L R Z (fun r I1 L1 R1 Z1 => AWq l E (d + 1) M Z0 pc2 ls (rst r st) I1 L1 R1 Z1 Q)) (hw : Nat.ble (st.map wd).sum 8 = true := by rfl) : AWq l E (d + 1) M Z0 pc ls (a2 :: a1 :: a0 :: st) I L R Z Q :=
  aw_callSN (as := [a0, a1, a2]) hd hlk hf hv rfl (Nat.le_of_ble_eq_true hw) hm
theorem aw_cV4 {idx t i : Nat} {a0 a1 a2 a3 : AV} (hd : Dc M pc (.invokevirtual idx) 3 pc2) (hlk : Cond.methodLink M.1.cls idx M2.1 ∈ G) (hf : MF M2 4) (hv : MV M2) (hm : AMet l E d M2 (vr t i :: a0 :: a1 :: a2 :: a3 :: []) I L R Z (fun r I1 L1 R1 Z1 => AWq l E (d + 1) M Z0 pc2 ls (rst r st) I1 L1 R1 Z1 Q)) (ht : t < 10 ∧ Rn t = M2.1.cls := by exact ⟨by decide, rfl⟩) (hw : Nat.ble (st.map wd).sum 8 = true := by rfl) : AWq l E (d + 1) M Z0 pc ls (a3 :: a2 :: a1 :: a0 :: vr t i :: st) I L R Z Q :=
  aw_callV (as := [a0, a1, a2, a3]) hd hlk hf hv ht rfl (Nat.le_of_ble_eq_true hw) hm
theorem aw_cVS4 {idx i : Nat} {a0 a1 a2 a3 : AV} (hd : Dc M pc (.invokevirtual idx) 3 pc2) (hlk : Cond.methodLink M.1.cls idx M2.1 ∈ G) (hf : MF M2 4) (hv : MV M2) (hi : i < 2) (hm : AMet l E d M2 (vr 51 i :: a0 :: a1 :: a2 :: a3 :: []) I L R Z (fun r I1 L1 R1 Z1 => AWq l E (d + 1) M Z0 pc2 ls (rst r st) I1 L1 R1 Z1 Q)) (ht : M2.1.cls = "java/lang/String" := by rfl) (hw : Nat.ble (st.map wd).sum 8 = true := by rfl) : AWq l E (d + 1) M Z0 pc ls (a3 :: a2 :: a1 :: a0 :: vr 51 i :: st) I L R Z Q :=
  aw_callVS (as := [a0, a1, a2, a3]) hd hlk hf hv ht hi rfl (Nat.le_of_ble_eq_true hw) hm
theorem aw_cI4 {idx t i : Nat} {a0 a1 a2 a3 : AV} (hd : Dc M pc (.invokespecial idx) 3 pc2) (hlk : Cond.methodLink M.1.cls idx M2.1 ∈ G) (hf : MF M2 4) (hv : MI M2) (hm : AMet l E d M2 (vr t i :: a0 :: a1 :: a2 :: a3 :: []) I L R Z (fun r I1 L1 R1 Z1 => AWq l E (d + 1) M Z0 pc2 ls (rst r st) I1 L1 R1 Z1 Q)) (hw : Nat.ble (st.map wd).sum 8 = true := by rfl) : AWq l E (d + 1) M Z0 pc ls (a3 :: a2 :: a1 :: a0 :: vr t i :: st) I L R Z Q :=
  aw_callI (as := [a0, a1, a2, a3]) hd hlk hf hv rfl (Nat.le_of_ble_eq_true hw) hm
theorem aw_cIN4 {idx t i : Nat} {a0 a1 a2 a3 : AV} (hd : Dc M pc (.invokespecial idx) 3 pc2) {host : String} (hlk : Cond.methodLinkNest M.1.cls idx M2.1 host ∈ Gn) (hf : MF M2 4) (hv : MI M2) (hm : AMet l E d M2 (vr t i :: a0 :: a1 :: a2 :: a3 :: []) I L R Z (fun r I1 L1 R1 Z1 => AWq l E (d + 1) M Z0 pc2 ls (rst r st) I1 L1 R1 Z1 Q)) (hw : Nat.ble (st.map wd).sum 8 = true := by rfl) : AWq l E (d + 1) M Z0 pc ls (a3 :: a2 :: a1 :: a0 :: vr t i :: st) I L R Z Q :=
  aw_callIN (as := [a0, a1, a2, a3]) hd hlk hf hv rfl (Nat.le_of_ble_eq_true hw) hm
theorem aw_cS4 {idx : Nat} {a0 a1 a2 a3 : AV} (hd : Dc M pc (.invokestatic idx) 3 pc2) (hlk : Cond.methodLink M.1.cls idx M2.1 ∈ G) (hf : MF M2 4) (hv : MS M2) (hm : AMet l E d M2 ([a0, a1, a2, a3]) I L R Z (fun r I1 L1 R1 Z1 => AWq l E (d + 1) M Z0 pc2 ls (rst r st) I1 L1 R1 Z1 Q)) (hw : Nat.ble (st.map wd).sum 8 = true := by rfl) : AWq l E (d + 1) M Z0 pc ls (a3 :: a2 :: a1 :: a0 :: st) I L R Z Q :=
  aw_callS (as := [a0, a1, a2, a3]) hd hlk hf hv rfl (Nat.le_of_ble_eq_true hw) hm
theorem aw_cSN4 {idx : Nat} {a0 a1 a2 a3 : AV} (hd : Dc M pc (.invokestatic idx) 3 pc2) {host : String} (hlk : Cond.methodLinkNest M.1.cls idx M2.1 host ∈ Gn) (hf : MF M2 4) (hv : MS M2) (hm : AMet l E d M2 ([a0, a1, a2, a3]) I L R Z (fun r I1 L1 R1 Z1 => AWq l E (d + 1) M Z0 pc2 ls (rst r st) I1 L1 R1 Z1 Q)) (hw : Nat.ble (st.map wd).sum 8 = true := by rfl) : AWq l E (d + 1) M Z0 pc ls (a3 :: a2 :: a1 :: a0 :: st) I L R Z Q :=
  aw_callSN (as := [a0, a1, a2, a3]) hd hlk hf hv rfl (Nat.le_of_ble_eq_true hw) hm
theorem aw_cV5 {idx t i : Nat} {a0 a1 a2 a3 a4 : AV} (hd : Dc M pc (.invokevirtual idx) 3 pc2) (hlk : Cond.methodLink M.1.cls idx M2.1 ∈ G) (hf : MF M2 5) (hv : MV M2) (hm : AMet l E d M2 (vr t i :: a0 :: a1 :: a2 :: a3 :: a4 :: []) I L R Z (fun r I1 L1 R1 Z1 => AWq l E (d + 1) M Z0 pc2 ls (rst r st) I1 L1 R1 Z1 Q)) (ht : t < 10 ∧ Rn t = M2.1.cls := by exact ⟨by decide, rfl⟩) (hw : Nat.ble (st.map wd).sum 8 = true := by rfl) : AWq l E (d + 1) M Z0 pc ls (a4 :: a3 :: a2 :: a1 :: a0 :: vr t i :: st) I L R Z Q :=
  aw_callV (as := [a0, a1, a2, a3, a4]) hd hlk hf hv ht rfl (Nat.le_of_ble_eq_true hw) hm
theorem aw_cVS5 {idx i : Nat} {a0 a1 a2 a3 a4 : AV} (hd : Dc M pc (.invokevirtual idx) 3 pc2) (hlk : Cond.methodLink M.1.cls idx M2.1 ∈ G) (hf : MF M2 5) (hv : MV M2) (hi : i < 2) (hm : AMet l E d M2 (vr 51 i :: a0 :: a1 :: a2 :: a3 :: a4 :: []) I L R Z (fun r I1 L1 R1 Z1 => AWq l E (d + 1) M Z0 pc2 ls (rst r st) I1 L1 R1 Z1 Q)) (ht : M2.1.cls = "java/lang/String" := by rfl) (hw : Nat.ble (st.map wd).sum 8 = true := by rfl) : AWq l E (d + 1) M Z0 pc ls (a4 :: a3 :: a2 :: a1 :: a0 :: vr 51 i :: st) I L R Z Q :=
  aw_callVS (as := [a0, a1, a2, a3, a4]) hd hlk hf hv ht hi rfl (Nat.le_of_ble_eq_true hw) hm
theorem aw_cI5 {idx t i : Nat} {a0 a1 a2 a3 a4 : AV} (hd : Dc M pc (.invokespecial idx) 3 pc2) (hlk : Cond.methodLink M.1.cls idx M2.1 ∈ G) (hf : MF M2 5) (hv : MI M2) (hm : AMet l E d M2 (vr t i :: a0 :: a1 :: a2 :: a3 :: a4 :: []) I L R Z (fun r I1 L1 R1 Z1 => AWq l E (d + 1) M Z0 pc2 ls (rst r st) I1 L1 R1 Z1 Q)) (hw : Nat.ble (st.map wd).sum 8 = true := by rfl) : AWq l E (d + 1) M Z0 pc ls (a4 :: a3 :: a2 :: a1 :: a0 :: vr t i :: st) I L R Z Q :=
  aw_callI (as := [a0, a1, a2, a3, a4]) hd hlk hf hv rfl (Nat.le_of_ble_eq_true hw) hm
theorem aw_cIN5 {idx t i : Nat} {a0 a1 a2 a3 a4 : AV} (hd : Dc M pc (.invokespecial idx) 3 pc2) {host : String} (hlk : Cond.methodLinkNest M.1.cls idx M2.1 host ∈ Gn) (hf : MF M2 5) (hv : MI M2) (hm : AMet l E d M2 (vr t i :: a0 :: a1 :: a2 :: a3 :: a4 :: []) I L R Z (fun r I1 L1 R1 Z1 => AWq l E (d + 1) M Z0 pc2 ls (rst r st) I1 L1 R1 Z1 Q)) (hw : Nat.ble (st.map wd).sum 8 = true := by rfl) : AWq l E (d + 1) M Z0 pc ls (a4 :: a3 :: a2 :: a1 :: a0 :: vr t i :: st) I L R Z Q :=
  aw_callIN (as := [a0, a1, a2, a3, a4]) hd hlk hf hv rfl (Nat.le_of_ble_eq_true hw) hm
theorem aw_cS5 {idx : Nat} {a0 a1 a2 a3 a4 : AV} (hd : Dc M pc (.invokestatic idx) 3 pc2) (hlk : Cond.methodLink M.1.cls idx M2.1 ∈ G) (hf : MF M2 5) (hv : MS M2) (hm : AMet l E d M2 ([a0, a1, a2, a3, a4]) I L R Z (fun r I1 L1 R1 Z1 => AWq l E (d + 1) M Z0 pc2 ls (rst r st) I1 L1 R1 Z1 Q)) (hw : Nat.ble (st.map wd).sum 8 = true := by rfl) : AWq l E (d + 1) M Z0 pc ls (a4 :: a3 :: a2 :: a1 :: a0 :: st) I L R Z Q :=
  aw_callS (as := [a0, a1, a2, a3, a4]) hd hlk hf hv rfl (Nat.le_of_ble_eq_true hw) hm
theorem aw_cSN5 {idx : Nat} {a0 a1 a2 a3 a4 : AV} (hd : Dc M pc (.invokestatic idx) 3 pc2) {host : String} (hlk : Cond.methodLinkNest M.1.cls idx M2.1 host ∈ Gn) (hf : MF M2 5) (hv : MS M2) (hm : AMet l E d M2 ([a0, a1, a2, a3, a4]) I L R Z (fun r I1 L1 R1 Z1 => AWq l E (d + 1) M Z0 pc2 ls (rst r st) I1 L1 R1 Z1 Q)) (hw : Nat.ble (st.map wd).sum 8 = true := by rfl) : AWq l E (d + 1) M Z0 pc ls (a4 :: a3 :: a2 :: a1 :: a0 :: st) I L R Z Q :=
  aw_callSN (as := [a0, a1, a2, a3, a4]) hd hlk hf hv rfl (Nat.le_of_ble_eq_true hw) hm
theorem awN_icmp_eq {a b : Nat} {off : Int} (hd : Db M pc (.if_icmp .eq off) off tgt pc2) (ha : a < 2147483648) (hb : b < 2147483648) (kt : a = b → AWq l E d M Z0 tgt ls st I L R Z Q) (kf : ¬ a = b → AWq l E d M Z0 pc2 ls st I L R Z Q) : AWq l E d M Z0 pc ls (vi (nI b) :: vi (nI a) :: st) I L R Z Q :=
  aw_icmp_eq hd (fun h => kt ((nI_eq ha hb).mp h)) (fun h => kf (fun q => h ((nI_eq ha hb).mpr q)))
theorem awN_icmp_ne {a b : Nat} {off : Int} (hd : Db M pc (.if_icmp .ne off) off tgt pc2) (ha : a < 2147483648) (hb : b < 2147483648) (kt : ¬ a = b → AWq l E d M Z0 tgt ls st I L R Z Q) (kf : a = b → AWq l E d M Z0 pc2 ls st I L R Z Q) : AWq l E d M Z0 pc ls (vi (nI b) :: vi (nI a) :: st) I L R Z Q :=
  aw_icmp_ne hd (fun h => kt (fun q => h ((nI_eq ha hb).mpr q))) (fun h => kf ((nI_eq ha hb).mp h))
theorem awN_icmp_lt {a b : Nat} {off : Int} (hd : Db M pc (.if_icmp .lt off) off tgt pc2) (ha : a < 2147483648) (hb : b < 2147483648) (kt : a < b → AWq l E d M Z0 tgt ls st I L R Z Q) (kf : b ≤ a → AWq l E d M Z0 pc2 ls st I L R Z Q) : AWq l E d M Z0 pc ls (vi (nI b) :: vi (nI a) :: st) I L R Z Q :=
  aw_icmp_lt hd (fun h => kt ((nI_ltI ha hb).mp h)) (fun h => kf (Nat.not_lt.mp (fun q => h ((nI_ltI ha hb).mpr q))))
theorem awN_icmp_ge {a b : Nat} {off : Int} (hd : Db M pc (.if_icmp .ge off) off tgt pc2) (ha : a < 2147483648) (hb : b < 2147483648) (kt : b ≤ a → AWq l E d M Z0 tgt ls st I L R Z Q) (kf : a < b → AWq l E d M Z0 pc2 ls st I L R Z Q) : AWq l E d M Z0 pc ls (vi (nI b) :: vi (nI a) :: st) I L R Z Q :=
  aw_icmp_ge hd (fun h => kt ((nI_leI hb ha).mp h)) (fun h => kf (Nat.not_le.mp (fun q => h ((nI_leI hb ha).mpr q))))
theorem awN_icmp_gt {a b : Nat} {off : Int} (hd : Db M pc (.if_icmp .gt off) off tgt pc2) (ha : a < 2147483648) (hb : b < 2147483648) (kt : b < a → AWq l E d M Z0 tgt ls st I L R Z Q) (kf : a ≤ b → AWq l E d M Z0 pc2 ls st I L R Z Q) : AWq l E d M Z0 pc ls (vi (nI b) :: vi (nI a) :: st) I L R Z Q :=
  aw_icmp_gt hd (fun h => kt ((nI_ltI hb ha).mp h)) (fun h => kf (Nat.not_lt.mp (fun q => h ((nI_ltI hb ha).mpr q))))
theorem awN_icmp_le {a b : Nat} {off : Int} (hd : Db M pc (.if_icmp .le off) off tgt pc2) (ha : a < 2147483648) (hb : b < 2147483648) (kt : a ≤ b → AWq l E d M Z0 tgt ls st I L R Z Q) (kf : b < a → AWq l E d M Z0 pc2 ls st I L R Z Q) : AWq l E d M Z0 pc ls (vi (nI b) :: vi (nI a) :: st) I L R Z Q :=
  aw_icmp_le hd (fun h => kt ((nI_leI ha hb).mp h)) (fun h => kf (Nat.not_le.mp (fun q => h ((nI_leI ha hb).mpr q))))
theorem nI_z {a : Nat} (ha : a < 2147483648) : nI a = 0 ↔ a = 0 := (nI_eq (b := 0) ha (by decide))
theorem awN_if_eq {a : Nat} {off : Int} (hd : Db M pc (.ifCond .eq off) off tgt pc2) (ha : a < 2147483648) (kt : a = 0 → AWq l E d M Z0 tgt ls st I L R Z Q) (kf : ¬ a = 0 → AWq l E d M Z0 pc2 ls st I L R Z Q) : AWq l E d M Z0 pc ls (vi (nI a) :: st) I L R Z Q :=
  aw_if_eq hd (fun h => kt ((nI_z ha).mp h)) (fun h => kf (fun q => h ((nI_z ha).mpr q)))
theorem awN_if_ne {a : Nat} {off : Int} (hd : Db M pc (.ifCond .ne off) off tgt pc2) (ha : a < 2147483648) (kt : ¬ a = 0 → AWq l E d M Z0 tgt ls st I L R Z Q) (kf : a = 0 → AWq l E d M Z0 pc2 ls st I L R Z Q) : AWq l E d M Z0 pc ls (vi (nI a) :: st) I L R Z Q :=
  aw_if_ne hd (fun h => kt (fun q => h ((nI_z ha).mpr q))) (fun h => kf ((nI_z ha).mp h))
theorem awN_if_lt {a : Nat} {off : Int} (hd : Db M pc (.ifCond .lt off) off tgt pc2) (ha : a < 2147483648) (kf : AWq l E d M Z0 pc2 ls st I L R Z Q) : AWq l E d M Z0 pc ls (vi (nI a) :: st) I L R Z Q :=
  aw_if_lt hd (fun h => absurd h (nI_pos ha)) (fun _ => kf)
theorem awN_if_ge {a : Nat} {off : Int} (hd : Db M pc (.ifCond .ge off) off tgt pc2) (ha : a < 2147483648) (kt : AWq l E d M Z0 tgt ls st I L R Z Q) : AWq l E d M Z0 pc ls (vi (nI a) :: st) I L R Z Q :=
  aw_if_ge hd (fun _ => kt) (fun h => absurd (nI_pos' ha) h)
theorem awN_if_gt {a : Nat} {off : Int} (hd : Db M pc (.ifCond .gt off) off tgt pc2) (ha : a < 2147483648) (kt : 0 < a → AWq l E d M Z0 tgt ls st I L R Z Q) (kf : a = 0 → AWq l E d M Z0 pc2 ls st I L R Z Q) : AWq l E d M Z0 pc ls (vi (nI a) :: st) I L R Z Q :=
  aw_if_gt hd (fun h => kt ((nI_ltI (a := 0) (by decide) ha).mp h)) (fun h => kf (Nat.eq_zero_of_not_pos (fun q => h ((nI_ltI (a := 0) (by decide) ha).mpr q))))
theorem awN_if_le {a : Nat} {off : Int} (hd : Db M pc (.ifCond .le off) off tgt pc2) (ha : a < 2147483648) (kt : a = 0 → AWq l E d M Z0 tgt ls st I L R Z Q) (kf : 0 < a → AWq l E d M Z0 pc2 ls st I L R Z Q) : AWq l E d M Z0 pc ls (vi (nI a) :: st) I L R Z Q :=
  aw_if_le hd (fun h => kt (by have := (nI_leI ha (b := 0) (by decide)).mp h; omega)) (fun h => kf (Nat.not_le.mp (fun q => h ((nI_leI ha (b := 0) (by decide)).mpr q))))
theorem awB_eq {c : Prop} [Decidable c] {off : Int} (hd : Db M pc (.ifCond .eq off) off tgt pc2) (kt : ¬ c → AWq l E d M Z0 tgt ls st I L R Z Q) (kf : c → AWq l E d M Z0 pc2 ls st I L R Z Q) : AWq l E d M Z0 pc ls (vi (bI c) :: st) I L R Z Q :=
  aw_if_eq hd (fun h => kt ((bI_0 c).mp h)) (fun h => kf (Decidable.byContradiction (fun q => h ((bI_0 c).mpr q))))
theorem awB_ne {c : Prop} [Decidable c] {off : Int} (hd : Db M pc (.ifCond .ne off) off tgt pc2) (kt : c → AWq l E d M Z0 tgt ls st I L R Z Q) (kf : ¬ c → AWq l E d M Z0 pc2 ls st I L R Z Q) : AWq l E d M Z0 pc ls (vi (bI c) :: st) I L R Z Q :=
  aw_if_ne hd (fun h => kt (Decidable.byContradiction (fun q => h ((bI_0 c).mpr q)))) (fun h => kf ((bI_0 c).mp h))
theorem awB_ret {c : Prop} [Decidable c] (hd : Dc M pc .ireturn 1 pc2) (hr : M.2.2.2 = some .boolean) (hq : Q (some (vi (bI c))) I L R Z) : AWq l E d M Z0 pc ls [vi (bI c)] I L R Z Q := aw_iret hd hr (nb_bI c) hq
theorem awB_1 {c : Prop} [Decidable c] (hd : Dc M pc .ireturn 1 pc2) (h : c) (hq : Q (some (vi (bI c))) I L R Z) (hr : M.2.2.2 = some .boolean ∨ M.2.2.2 = some .int := by first | exact Or.inl rfl | exact Or.inr rfl) : AWq l E d M Z0 pc ls [vi (nI 1)] I L R Z Q := by
  rw [bI_t h] at hq
  rcases hr with hr | hr <;> exact aw_iret hd hr rfl hq
theorem awB_0 {c : Prop} [Decidable c] (hd : Dc M pc .ireturn 1 pc2) (h : ¬ c) (hq : Q (some (vi (bI c))) I L R Z) (hr : M.2.2.2 = some .boolean ∨ M.2.2.2 = some .int := by first | exact Or.inl rfl | exact Or.inr rfl) : AWq l E d M Z0 pc ls [vi (nI 0)] I L R Z Q := by
  rw [bI_f h] at hq
  rcases hr with hr | hr <;> exact aw_iret hd hr rfl hq
theorem aw_ret {x y : Int32} (hd : Dc M pc .ireturn 1 pc2) (e : y = x) (hq : Q (some (vi x)) I L R Z) (hr : M.2.2.2 = some .int := by rfl) : AWq l E d M Z0 pc ls [vi y] I L R Z Q := by
  subst e
  exact aw_iret hd hr rfl hq
end WRAP
/-- references that are never changed once the objects stand -/
def Rf (t i f : Nat) : Option (Nat × Nat) :=
  if t = 8 then (([(2, 0), (2, 1), (2, 2), (0, 0), (0, 1), (1, 0), (6, 0), (22, 0), (23, 0), (24, 0), (25, 0)] : List (Nat × Nat))[f]?)
  else if t = 2 then (([(10, i), (11, i), (12, i), (13, i)] : List (Nat × Nat))[f]?)
  else if t = 0 then (([(14, i), (15, i), (16, i)] : List (Nat × Nat))[f]?)
  else if t = 1 then (([(18, i), (19, i)] : List (Nat × Nat))[f]?)
  else if t = 4 then (if f = 2 then some (26, i) else none)
  else if t = 5 then (if f = 2 then some (3, 36 + i) else if f = 3 then some (4, 4 + i) else none)
  else if t = 6 then (if f = 2 then some (20, i) else if f = 6 then some (21, i) else none)
  else if t = 9 then (([some (28, 0), some (28, 1), some (28, 2), none, some (29, 0), some (30, 0), some (31, 0), some (32, 0), some (33, 0), some (34, 0), some (35, 0), some (36, 0), some (37, 0), none, some (38, 0), some (39, 0), none, none, none, none, none, none, none, none, none, none, none, some (40, 0), some (41, 0), some (42, 0), some (43, 0), some (44, 0), some (45, 0), none, some (46, 0)] : List (Option (Nat × Nat))).getD f none)
  else none
def Sta (R : Rt) : Prop := (∀ t i f q, Rf t i f = some q → R t i f = some q) ∧ (∀ k j, k < 3 → j < 12 → R 10 k j = some (3, 12 * k + j)) ∧ (∀ j, j < 4 → R 24 0 j = some (4, j)) ∧ (∀ j, j < 5 → R 25 0 j = some (5, j))
