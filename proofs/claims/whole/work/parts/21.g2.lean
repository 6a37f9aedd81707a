/-! ===== the reference: planes, dots, foretelling ===== -/
def okD (σ : Sg) (A B : Nat) : Prop := σ 7 0 = nI A ∧ σ 8 0 = nI B ∧ 1 ≤ A ∧ A ≤ 4 ∧ 1 ≤ B ∧ B ≤ 4
def hel (v lo hi : Int32) : Int32 := if lo ≤ v then (if v ≤ hi then v else hi) else lo
def pW (σ : Sg) (p : Int32) : Int32 := if p = 0 then nI 16 * σ 7 0 else nI 8 * σ 7 0
def pH (σ : Sg) (p : Int32) : Int32 := if p = 0 then nI 16 * σ 8 0 else nI 8 * σ 8 0
def pA (σ : Sg) (p : Int32) : Int32 := if p = 0 then nI 0 else nI 256 * σ 7 0 * σ 8 0 + (p - nI 1) * nI 64 * σ 7 0 * σ 8 0
def wdN (A P : Nat) : Nat := if P = 0 then 16 * A else 8 * A
def atN (A B P : Nat) : Nat := if P = 0 then 0 else 256 * A * B + (P - 1) * 64 * A * B
theorem pW_n {σ : Sg} {A B P : Nat} (h : okD σ A B) (hP : P < 2 ^ 31) : pW σ (nI P) = nI (wdN A P) := by
  unfold pW wdN
  rw [h.1, pk_mul, pk_mul]
  by_cases e : P = 0
  · subst e; rfl
  · rw [if_neg (nI_ne0 (by omega) hP), if_neg e]
theorem pH_n {σ : Sg} {A B P : Nat} (h : okD σ A B) (hP : P < 2 ^ 31) : pH σ (nI P) = nI (wdN B P) := by
  unfold pH wdN
  rw [h.2.1, pk_mul, pk_mul]
  by_cases e : P = 0
  · subst e; rfl
  · rw [if_neg (nI_ne0 (by omega) hP), if_neg e]
theorem pA_n {σ : Sg} {A B P : Nat} (h : okD σ A B) (hP : P < 2 ^ 31) : pA σ (nI P) = nI (atN A B P) := by
  unfold pA atN
  by_cases e : P = 0
  · subst e; rfl
  · rw [if_neg (nI_ne0 (by omega) hP), if_neg e, h.1, h.2.1, pk_sub (by omega)]
    simp only [pk_mul, nI_add]
/-- held within 0 and w - 1 -/
def cl (x w : Int32) : Int32 := if 0 ≤ x then (if x < w then x else w - nI 1) else nI 0
theorem cl_n {x : Int32} {w : Nat} (h0 : 1 ≤ w) (hw : w < 2 ^ 31) : ∃ c, c < w ∧ cl x (nI w) = nI c := by
  unfold cl
  split
  · rename_i h1
    split
    · rename_i h2
      obtain ⟨j, hj, rfl⟩ := nI_of (Int32.not_lt.mpr h1)
      exact ⟨j, (nI_ltI hj hw).mp h2, rfl⟩
    · exact ⟨w - 1, by omega, pk_sub h0⟩
  · exact ⟨0, by omega, rfl⟩
theorem idx_lt {A B P c1 c2 : Nat} (hA : 1 ≤ A ∧ A ≤ 4) (hB : 1 ≤ B ∧ B ≤ 4) (hP : P < 3) (h1 : c1 < wdN A P) (h2 : c2 < wdN B P) : atN A B P + wdN A P * c2 + c1 < atN A B (P + 1) ∧ atN A B (P + 1) ≤ 384 * A * B ∧ 384 * A * B ≤ 6144 := by
  unfold atN wdN at *
  rcases (show A = 1 ∨ A = 2 ∨ A = 3 ∨ A = 4 by omega) with rfl | rfl | rfl | rfl <;> rcases (show B = 1 ∨ B = 2 ∨ B = 3 ∨ B = 4 by omega) with rfl | rfl | rfl | rfl <;> rcases (show P = 0 ∨ P = 1 ∨ P = 2 by omega) with rfl | rfl | rfl <;> simp at * <;> omega
def dIx (σ : Sg) (p x y : Int32) : Int32 := pA σ p + pW σ p * cl y (pH σ p) + cl x (pW σ p)
def fDot (σ : Sg) (k : Nat) (p x y : Int32) : Int32 := σ k (dIx σ p x y).toNatClampNeg
theorem dIx_n {σ : Sg} {A B P : Nat} (h : okD σ A B) (hP : P < 3) (x y : Int32) : ∃ c1 c2, c1 < wdN A P ∧ c2 < wdN B P ∧ cl x (nI (wdN A P)) = nI c1 ∧ cl y (nI (wdN B P)) = nI c2 ∧ dIx σ (nI P) x y = nI (atN A B P + wdN A P * c2 + c1) ∧ atN A B P + wdN A P * c2 + c1 < 6144 := by
  have hw : 1 ≤ wdN A P ∧ wdN A P ≤ 64 := by unfold wdN; split <;> (have := h.2.2; omega)
  have hh : 1 ≤ wdN B P ∧ wdN B P ≤ 64 := by unfold wdN; split <;> (have := h.2.2; omega)
  obtain ⟨c1, a1, a2⟩ := cl_n (x := x) (w := wdN A P) hw.1 (by omega)
  obtain ⟨c2, b1, b2⟩ := cl_n (x := y) (w := wdN B P) hh.1 (by omega)
  have := idx_lt ⟨h.2.2.1, h.2.2.2.1⟩ ⟨h.2.2.2.2.1, h.2.2.2.2.2⟩ hP a1 b1
  refine ⟨c1, c2, a1, b1, a2, b2, ?_, by omega⟩
  unfold dIx
  rw [pA_n h (by omega), pW_n h (by omega), pH_n h (by omega), a2, b2, pk_mul, nI_add, nI_add]
def rm2 (x : Int32) : Int32 := x - x / nI 2 * nI 2
def h1 (x : Int32) : Int32 := x >>> (nI 1 &&& 31)
def fBt (σ : Sg) (k : Nat) (p hx hy : Int32) : Int32 :=
  if rm2 hx = 0 ∧ rm2 hy = 0 then fDot σ k p (h1 hx) (h1 hy) else
  if rm2 hy = 0 then h1 (fDot σ k p (h1 hx) (h1 hy) + fDot σ k p (h1 hx + nI 1) (h1 hy) + nI 1) else
  if rm2 hx = 0 then h1 (fDot σ k p (h1 hx) (h1 hy) + fDot σ k p (h1 hx) (h1 hy + nI 1) + nI 1) else
  (fDot σ k p (h1 hx) (h1 hy) + fDot σ k p (h1 hx + nI 1) (h1 hy) + fDot σ k p (h1 hx) (h1 hy + nI 1) + fDot σ k p (h1 hx + nI 1) (h1 hy + nI 1) + nI 2) >>> (nI 2 &&& 31)
def fMv (σ : Sg) (k : Nat) (p x y : Int32) (w : Nat) : Int32 :=
  if p ≤ 0 then fBt σ k p (nI 2 * x + σ 28 (2 * w)) (nI 2 * y + σ 28 (2 * w + 1)) else fBt σ k p (nI 2 * x + σ 28 (2 * w) / nI 2) (nI 2 * y + σ 28 (2 * w + 1) / nI 2)
def fwK (σ : Sg) : Nat := if σ 34 0 = nI 2 then 10 else 11
def fFD (σ : Sg) (p x y : Int32) : Int32 :=
  if σ 30 0 = 0 then fMv σ 10 p x y 1 else if σ 31 0 = 0 then fMv σ (fwK σ) p x y 0 else h1 (fMv σ (fwK σ) p x y 0 + fMv σ 10 p x y 1 + nI 1)
def okK (k : Nat) : Prop := k < 43 ∧ aOff k ≠ 0 ∧ aKd k = 11 ∧ aLen k = 6144
theorem okK10 : okK 10 := ⟨by decide, by decide, rfl, rfl⟩
theorem okKf (σ : Sg) : okK (fwK σ) := by unfold fwK; split <;> exact ⟨by decide, by decide, rfl, rfl⟩
theorem m_planeWidth {s0 : State} {l : Launch} {m : Nat} {σ : Sg} {p : Int32} : GC s0 l M_M_planeWidth m [.int p] σ (fun r σ' => r = some (.int (pW σ p)) ∧ σ' = σ) := by
  refine g_in (by decide) rfl rfl (Nat.le_of_ble_eq_true rfl) (fun hB => ?_)
  refine g_iload_n d_M_planeWidth_0 rfl rfl ?_
  refine g_if_ne (tgt := 14) d_M_planeWidth_1 (by decide) (fun c_1 => ?_) (fun c_1 => ?_)
  · skip
    refine g_bipush (v := nI 8) d_M_planeWidth_14 (by decide) ?_
    refine g_aload_n d_M_planeWidth_16 rfl rfl ?_
    refine g_get d_M_planeWidth_17 fM_35 rfl ?_
    refine g_imul d_M_planeWidth_20 ?_
    refine g_iret d_M_planeWidth_21 rfl rfl ?_
    refine ⟨?_, rfl⟩
    unfold pW
    first | rw [if_neg c_1] | rw [if_pos c_1]
  · skip
    refine g_bipush (v := nI 16) d_M_planeWidth_4 (by decide) ?_
    refine g_aload_n d_M_planeWidth_6 rfl rfl ?_
    refine g_get d_M_planeWidth_7 fM_35 rfl ?_
    refine g_imul d_M_planeWidth_10 ?_
    refine g_goto (tgt := 21) d_M_planeWidth_11 (by decide) ?_
    refine g_iret d_M_planeWidth_21 rfl rfl ?_
    refine ⟨?_, rfl⟩
    unfold pW
    first | rw [if_neg c_1] | rw [if_pos c_1]

theorem m_planeHeight {s0 : State} {l : Launch} {m : Nat} {σ : Sg} {p : Int32} : GC s0 l M_M_planeHeight m [.int p] σ (fun r σ' => r = some (.int (pH σ p)) ∧ σ' = σ) := by
  refine g_in (by decide) rfl rfl (Nat.le_of_ble_eq_true rfl) (fun hB => ?_)
  refine g_iload_n d_M_planeHeight_0 rfl rfl ?_
  refine g_if_ne (tgt := 14) d_M_planeHeight_1 (by decide) (fun c_1 => ?_) (fun c_1 => ?_)
  · skip
    refine g_bipush (v := nI 8) d_M_planeHeight_14 (by decide) ?_
    refine g_aload_n d_M_planeHeight_16 rfl rfl ?_
    refine g_get d_M_planeHeight_17 fM_38 rfl ?_
    refine g_imul d_M_planeHeight_20 ?_
    refine g_iret d_M_planeHeight_21 rfl rfl ?_
    refine ⟨?_, rfl⟩
    unfold pH
    first | rw [if_neg c_1] | rw [if_pos c_1]
  · skip
    refine g_bipush (v := nI 16) d_M_planeHeight_4 (by decide) ?_
    refine g_aload_n d_M_planeHeight_6 rfl rfl ?_
    refine g_get d_M_planeHeight_7 fM_38 rfl ?_
    refine g_imul d_M_planeHeight_10 ?_
    refine g_goto (tgt := 21) d_M_planeHeight_11 (by decide) ?_
    refine g_iret d_M_planeHeight_21 rfl rfl ?_
    refine ⟨?_, rfl⟩
    unfold pH
    first | rw [if_neg c_1] | rw [if_pos c_1]

theorem m_planeAt {s0 : State} {l : Launch} {m : Nat} {σ : Sg} {p : Int32} : GC s0 l M_M_planeAt m [.int p] σ (fun r σ' => r = some (.int (pA σ p)) ∧ σ' = σ) := by
  refine g_in (by decide) rfl rfl (Nat.le_of_ble_eq_true rfl) (fun hB => ?_)
  refine g_iload_n d_M_planeAt_0 rfl rfl ?_
  refine g_if_ne (tgt := 8) d_M_planeAt_1 (by decide) (fun c_1 => ?_) (fun c_1 => ?_)
  · skip
    refine g_sipush (v := nI 256) d_M_planeAt_8 (by decide) ?_
    refine g_aload_n d_M_planeAt_11 rfl rfl ?_
    refine g_get d_M_planeAt_12 fM_35 rfl ?_
    refine g_imul d_M_planeAt_15 ?_
    refine g_aload_n d_M_planeAt_16 rfl rfl ?_
    refine g_get d_M_planeAt_17 fM_38 rfl ?_
    refine g_imul d_M_planeAt_20 ?_
    refine g_iload_n d_M_planeAt_21 rfl rfl ?_
    refine g_iconst (v := nI 1) d_M_planeAt_22 (by decide) ?_
    refine g_isub d_M_planeAt_23 ?_
    refine g_bipush (v := nI 64) d_M_planeAt_24 (by decide) ?_
    refine g_imul d_M_planeAt_26 ?_
    refine g_aload_n d_M_planeAt_27 rfl rfl ?_
    refine g_get d_M_planeAt_28 fM_35 rfl ?_
    refine g_imul d_M_planeAt_31 ?_
    refine g_aload_n d_M_planeAt_32 rfl rfl ?_
    refine g_get d_M_planeAt_33 fM_38 rfl ?_
    refine g_imul d_M_planeAt_36 ?_
    refine g_iadd d_M_planeAt_37 ?_
    refine g_iret d_M_planeAt_38 rfl rfl ?_
    refine ⟨?_, rfl⟩
    unfold pA
    first | rw [if_neg c_1] | rw [if_pos c_1]
  · skip
    refine g_iconst (v := nI 0) d_M_planeAt_4 (by decide) ?_
    refine g_goto (tgt := 38) d_M_planeAt_5 (by decide) ?_
    refine g_iret d_M_planeAt_38 rfl rfl ?_
    refine ⟨?_, rfl⟩
    unfold pA
    first | rw [if_neg c_1] | rw [if_pos c_1]

theorem m_taped {s0 : State} {l : Launch} {m : Nat} {σ : Sg}  : GC s0 l M_M_taped m [] σ (fun r σ' => r = some (.int ((σ 2 0 + nI 7) / nI 8)) ∧ σ' = σ) := by
  refine g_in (by decide) rfl rfl (Nat.le_of_ble_eq_true rfl) (fun hB => ?_)
  refine g_aload_n d_M_taped_0 rfl rfl ?_
  refine g_get d_M_taped_1 fM_255 rfl ?_
  refine g_bipush (v := nI 7) d_M_taped_4 (by decide) ?_
  refine g_iadd d_M_taped_6 ?_
  refine g_bipush (v := nI 8) d_M_taped_7 (by decide) ?_
  refine g_idiv d_M_taped_9 (by decide) ?_
  refine g_iret d_M_taped_10 rfl rfl ?_
  exact ⟨rfl, rfl⟩

theorem m_thrown {s0 : State} {l : Launch} {m : Nat} {σ : Sg}  : GC s0 l M_M_thrown m [] σ (fun r σ' => r = some (.int (σ 0 0)) ∧ σ' = σ) := by
  refine g_in (by decide) rfl rfl (Nat.le_of_ble_eq_true rfl) (fun hB => ?_)
  refine g_aload_n d_M_thrown_0 rfl rfl ?_
  refine g_get d_M_thrown_1 fM_1 rfl ?_
  refine g_iret d_M_thrown_4 rfl rfl ?_
  exact ⟨rfl, rfl⟩

theorem m_wrong {s0 : State} {l : Launch} {m : Nat} {σ : Sg}  : GC s0 l M_M_wrong m [] σ (fun r σ' => r = some (.int (σ 6 0)) ∧ σ' = su σ 0 0 (nI 0)) := by
  refine g_in (by decide) rfl rfl (Nat.le_of_ble_eq_true rfl) (fun hB => ?_)
  refine g_aload_n d_M_wrong_0 rfl rfl ?_
  refine g_iconst (v := nI 0) d_M_wrong_1 (by decide) ?_
  refine g_put d_M_wrong_2 fM_1 rfl rfl rfl rfl ?_
  refine g_aload_n d_M_wrong_5 rfl rfl ?_
  refine g_get d_M_wrong_6 fM_7 rfl ?_
  refine g_iret d_M_wrong_9 rfl rfl ?_
  exact ⟨rfl, rfl⟩

def fNP (σ : Sg) (k : Int32) : Int32 := if k < 0 then nI 1 else if σ 22 0 ≤ k then nI 1 else if k < nI 20 then nI 0 else nI 1
def fNL (σ : Sg) (k p : Int32) : Int32 := if ¬ fNP σ k = 0 then nI 1 else if p < 0 then nI 1 else if p ≤ nI 2 then nI 0 else nI 1
theorem m_noPicture {s0 : State} {l : Launch} {m : Nat} {σ : Sg} {k : Int32} : GC s0 l M_M_noPicture m [.int k] σ (fun r σ' => r = some (.int (fNP σ k)) ∧ σ' = σ) := by
  refine g_in (by decide) rfl rfl (Nat.le_of_ble_eq_true rfl) (fun hB => ?_)
  refine g_iload_n d_M_noPicture_0 rfl rfl ?_
  refine g_if_lt (tgt := 18) d_M_noPicture_1 (by decide) (fun c_1 => ?_) (fun c_1 => ?_)
  · skip
    refine g_iconst (v := nI 1) d_M_noPicture_18 (by decide) ?_
    refine g_goto (tgt := 23) d_M_noPicture_19 (by decide) ?_
    refine g_iret d_M_noPicture_23 rfl rfl ?_
    refine ⟨?_, rfl⟩
    unfold fNP
    first | rw [if_pos c_1] | rw [if_neg c_1, if_pos c_9] | rw [if_neg c_1, if_neg c_9, if_pos c_15] | rw [if_neg c_1, if_neg c_9, if_neg c_15]
  · skip
    refine g_iload_n d_M_noPicture_4 rfl rfl ?_
    refine g_aload_n d_M_noPicture_5 rfl rfl ?_
    refine g_get d_M_noPicture_6 fM_41 rfl ?_
    refine g_icmp_ge (tgt := 18) d_M_noPicture_9 (by decide) (fun c_9 => ?_) (fun c_9 => ?_)
    · skip
      refine g_iconst (v := nI 1) d_M_noPicture_18 (by decide) ?_
      refine g_goto (tgt := 23) d_M_noPicture_19 (by decide) ?_
      refine g_iret d_M_noPicture_23 rfl rfl ?_
      refine ⟨?_, rfl⟩
      unfold fNP
      first | rw [if_pos c_1] | rw [if_neg c_1, if_pos c_9] | rw [if_neg c_1, if_neg c_9, if_pos c_15] | rw [if_neg c_1, if_neg c_9, if_neg c_15]
    · skip
      refine g_iload_n d_M_noPicture_12 rfl rfl ?_
      refine g_bipush (v := nI 20) d_M_noPicture_13 (by decide) ?_
      refine g_icmp_lt (tgt := 22) d_M_noPicture_15 (by decide) (fun c_15 => ?_) (fun c_15 => ?_)
      · skip
        refine g_iconst (v := nI 0) d_M_noPicture_22 (by decide) ?_
        refine g_iret d_M_noPicture_23 rfl rfl ?_
        refine ⟨?_, rfl⟩
        unfold fNP
        first | rw [if_pos c_1] | rw [if_neg c_1, if_pos c_9] | rw [if_neg c_1, if_neg c_9, if_pos c_15] | rw [if_neg c_1, if_neg c_9, if_neg c_15]
      · skip
        refine g_iconst (v := nI 1) d_M_noPicture_18 (by decide) ?_
        refine g_goto (tgt := 23) d_M_noPicture_19 (by decide) ?_
        refine g_iret d_M_noPicture_23 rfl rfl ?_
        refine ⟨?_, rfl⟩
        unfold fNP
        first | rw [if_pos c_1] | rw [if_neg c_1, if_pos c_9] | rw [if_neg c_1, if_neg c_9, if_pos c_15] | rw [if_neg c_1, if_neg c_9, if_neg c_15]

theorem m_noPlane {s0 : State} {l : Launch} {m : Nat} {σ : Sg} {k p : Int32} : GC s0 l M_M_noPlane m [.int k, .int p] σ (fun r σ' => r = some (.int (fNL σ k p)) ∧ σ' = σ) := by
  refine g_in (by decide) rfl rfl (Nat.le_of_ble_eq_true rfl) (fun hB => ?_)
  refine g_aload_n d_M_noPlane_0 rfl rfl ?_
  refine g_iload_n d_M_noPlane_1 rfl rfl ?_
  refine g_calli (As := [_]) d_M_noPlane_2 lM_264 mv_M_noPicture rfl rfl rfl (Nat.le_of_ble_eq_true rfl) (by decide) (m_noPicture) ?_
  refine g_if_ne (tgt := 17) d_M_noPlane_5 (by decide) (fun c_5 => ?_) (fun c_5 => ?_)
  · skip
    refine g_iconst (v := nI 1) d_M_noPlane_17 (by decide) ?_
    refine g_goto (tgt := 22) d_M_noPlane_18 (by decide) ?_
    refine g_iret d_M_noPlane_22 rfl rfl ?_
    refine ⟨?_, rfl⟩
    unfold fNL
    first | rw [if_pos c_5] | rw [if_neg (fun h9 => h9 c_5), if_pos c_9] | rw [if_neg (fun h9 => h9 c_5), if_neg c_9, if_pos c_14] | rw [if_neg (fun h9 => h9 c_5), if_neg c_9, if_neg c_14]
  · skip
    refine g_iload_n d_M_noPlane_8 rfl rfl ?_
    refine g_if_lt (tgt := 17) d_M_noPlane_9 (by decide) (fun c_9 => ?_) (fun c_9 => ?_)
    · skip
      refine g_iconst (v := nI 1) d_M_noPlane_17 (by decide) ?_
      refine g_goto (tgt := 22) d_M_noPlane_18 (by decide) ?_
      refine g_iret d_M_noPlane_22 rfl rfl ?_
      refine ⟨?_, rfl⟩
      unfold fNL
      first | rw [if_pos c_5] | rw [if_neg (fun h9 => h9 c_5), if_pos c_9] | rw [if_neg (fun h9 => h9 c_5), if_neg c_9, if_pos c_14] | rw [if_neg (fun h9 => h9 c_5), if_neg c_9, if_neg c_14]
    · skip
      refine g_iload_n d_M_noPlane_12 rfl rfl ?_
      refine g_iconst (v := nI 2) d_M_noPlane_13 (by decide) ?_
      refine g_icmp_le (tgt := 21) d_M_noPlane_14 (by decide) (fun c_14 => ?_) (fun c_14 => ?_)
      · skip
        refine g_iconst (v := nI 0) d_M_noPlane_21 (by decide) ?_
        refine g_iret d_M_noPlane_22 rfl rfl ?_
        refine ⟨?_, rfl⟩
        unfold fNL
        first | rw [if_pos c_5] | rw [if_neg (fun h9 => h9 c_5), if_pos c_9] | rw [if_neg (fun h9 => h9 c_5), if_neg c_9, if_pos c_14] | rw [if_neg (fun h9 => h9 c_5), if_neg c_9, if_neg c_14]
      · skip
        refine g_iconst (v := nI 1) d_M_noPlane_17 (by decide) ?_
        refine g_goto (tgt := 22) d_M_noPlane_18 (by decide) ?_
        refine g_iret d_M_noPlane_22 rfl rfl ?_
        refine ⟨?_, rfl⟩
        unfold fNL
        first | rw [if_pos c_5] | rw [if_neg (fun h9 => h9 c_5), if_pos c_9] | rw [if_neg (fun h9 => h9 c_5), if_neg c_9, if_pos c_14] | rw [if_neg (fun h9 => h9 c_5), if_neg c_9, if_neg c_14]

theorem m_M_held {s0 : State} {l : Launch} {h : Mem} {v lo hi : Int32} : CQ s0 l M_M_held [.int v, .int lo, .int hi] h (fun o h1 => o = .inl (some (.int (hel v lo hi))) ∧ h1 = h) := by
  refine c_in (by decide) rfl rfl (Nat.le_of_ble_eq_true rfl) ?_
  refine q_iload_n d_M_held_0 rfl rfl ?_
  refine q_iload_n d_M_held_1 rfl rfl ?_
  refine q_icmp_ge (tgt := 9) d_M_held_2 (by decide) (fun c_2 => ?_) (fun c_2 => ?_)
  · skip
    refine q_iload_n d_M_held_9 rfl rfl ?_
    refine q_iload_n d_M_held_10 rfl rfl ?_
    refine q_icmp_le (tgt := 18) d_M_held_11 (by decide) (fun c_11 => ?_) (fun c_11 => ?_)
    · skip
      refine q_iload_n d_M_held_18 rfl rfl ?_
      refine q_iret d_M_held_19 rfl rfl ?_
      refine ⟨?_, rfl⟩
      unfold hel
      first | rw [if_neg c_2] | rw [if_pos c_2, if_pos c_11] | rw [if_pos c_2, if_neg c_11]
    · skip
      refine q_iload_n d_M_held_14 rfl rfl ?_
      refine q_goto (tgt := 19) d_M_held_15 (by decide) ?_
      refine q_iret d_M_held_19 rfl rfl ?_
      refine ⟨?_, rfl⟩
      unfold hel
      first | rw [if_neg c_2] | rw [if_pos c_2, if_pos c_11] | rw [if_pos c_2, if_neg c_11]
  · skip
    refine q_iload_n d_M_held_5 rfl rfl ?_
    refine q_goto (tgt := 19) d_M_held_6 (by decide) ?_
    refine q_iret d_M_held_19 rfl rfl ?_
    refine ⟨?_, rfl⟩
    unfold hel
    first | rw [if_neg c_2] | rw [if_pos c_2, if_pos c_11] | rw [if_pos c_2, if_neg c_11]
theorem m_X_held {s0 : State} {l : Launch} {h : Mem} {v lo hi : Int32} : CQ s0 l M_X_held [.int v, .int lo, .int hi] h (fun o h1 => o = .inl (some (.int (hel v lo hi))) ∧ h1 = h) := by
  refine c_in (by decide) rfl rfl (Nat.le_of_ble_eq_true rfl) ?_
  refine q_iload_n d_X_held_0 rfl rfl ?_
  refine q_iload_n d_X_held_1 rfl rfl ?_
  refine q_icmp_ge (tgt := 9) d_X_held_2 (by decide) (fun c_2 => ?_) (fun c_2 => ?_)
  · skip
    refine q_iload_n d_X_held_9 rfl rfl ?_
    refine q_iload_n d_X_held_10 rfl rfl ?_
    refine q_icmp_le (tgt := 18) d_X_held_11 (by decide) (fun c_11 => ?_) (fun c_11 => ?_)
    · skip
      refine q_iload_n d_X_held_18 rfl rfl ?_
      refine q_iret d_X_held_19 rfl rfl ?_
      refine ⟨?_, rfl⟩
      unfold hel
      first | rw [if_neg c_2] | rw [if_pos c_2, if_pos c_11] | rw [if_pos c_2, if_neg c_11]
    · skip
      refine q_iload_n d_X_held_14 rfl rfl ?_
      refine q_goto (tgt := 19) d_X_held_15 (by decide) ?_
      refine q_iret d_X_held_19 rfl rfl ?_
      refine ⟨?_, rfl⟩
      unfold hel
      first | rw [if_neg c_2] | rw [if_pos c_2, if_pos c_11] | rw [if_pos c_2, if_neg c_11]
  · skip
    refine q_iload_n d_X_held_5 rfl rfl ?_
    refine q_goto (tgt := 19) d_X_held_6 (by decide) ?_
    refine q_iret d_X_held_19 rfl rfl ?_
    refine ⟨?_, rfl⟩
    unfold hel
    first | rw [if_neg c_2] | rw [if_pos c_2, if_pos c_11] | rw [if_pos c_2, if_neg c_11]
def f_resetVectors : Nat → Sg → Sg
  | 0, σ => σ
  | n + 1, σ => f_resetVectors n (su σ 29 (4 - (n + 1)) (nI 0))
theorem m_resetVectors_l {s0 : State} {l : Launch} {hB : Mem} {m : Nat} : ∀ (n i : Nat) (σ : Sg), i + n = 4 → GQ s0 l M_M_resetVectors hB m 2 [some (.ref m), some (.int (nI i))] [] σ (fun r σ' => r = none ∧ σ' = f_resetVectors n σ) := by
  intro n
  induction n with
  | zero =>
    intro i σ hi
    refine g_iload_n d_M_resetVectors_2 rfl rfl ?_
    refine g_iconst (v := nI 4) d_M_resetVectors_3 (by decide) ?_
    refine g_icmp_ge (tgt := 20) d_M_resetVectors_4 (by decide) (fun c_4 => ?_) (fun c_4 => ?_)
    · skip
      refine g_vret d_M_resetVectors_20 rfl ?_
      exact ⟨rfl, rfl⟩
    · exact absurd (nI_le (show 4 ≤ i by omega) (by omega)) c_4
  | succ n ih =>
    intro i σ hi
    refine g_iload_n d_M_resetVectors_2 rfl rfl ?_
    refine g_iconst (v := nI 4) d_M_resetVectors_3 (by decide) ?_
    refine g_icmp_ge (tgt := 20) d_M_resetVectors_4 (by decide) (fun c_4 => ?_) (fun c_4 => ?_)
    · exact absurd c_4 (nI_ge (by omega) (by decide))
    · skip
      refine g_aload_n d_M_resetVectors_7 rfl rfl ?_
      refine g_getA d_M_resetVectors_8 fM_111 (by decide) ?_
      refine g_iload_n d_M_resetVectors_11 rfl rfl ?_
      refine g_iconst (v := nI 0) d_M_resetVectors_12 (by decide) ?_
      refine g_iastore (k := 29) d_M_resetVectors_13 rfl (by decide) (by decide) rfl (show vp_in (nI i) 4 from vp_in_nI (by omega) (by decide)) ?_
      refine g_iinc d_M_resetVectors_14 rfl ?_
      refine g_goto (tgt := 2) d_M_resetVectors_17 (by decide) ?_
      rw [nI_clamp (by omega)]
      have e1 : nI i + Int32.ofInt 1 = nI (i + 1) := nI_1 i
      have e2 : i = 4 - (n + 1) := by omega
      show GQ s0 l M_M_resetVectors hB m 2 [some (.ref m), some (.int (nI i + Int32.ofInt 1))] [] _ _
      rw [e1]
      unfold f_resetVectors
      rw [← e2]
      exact ih (i + 1) _ (by omega)
theorem m_resetVectors {s0 : State} {l : Launch} {m : Nat} {σ : Sg}  : GC s0 l M_M_resetVectors m [] σ (fun r σ' => r = none ∧ σ' = f_resetVectors 4 σ) := by
  refine g_in (by decide) rfl rfl (Nat.le_of_ble_eq_true rfl) (fun hB => ?_)
  refine g_iconst (v := nI 0) d_M_resetVectors_0 (by decide) ?_
  refine g_istore_n d_M_resetVectors_1 rfl (Nat.le_of_ble_eq_true rfl) ?_
  exact m_resetVectors_l 4 0 σ (by omega)

def f_resetDcs : Nat → Sg → Sg
  | 0, σ => σ
  | n + 1, σ => f_resetDcs n (su σ 33 (3 - (n + 1)) (nI 128))
theorem m_resetDcs_l {s0 : State} {l : Launch} {hB : Mem} {m : Nat} : ∀ (n i : Nat) (σ : Sg), i + n = 3 → GQ s0 l M_M_resetDcs hB m 2 [some (.ref m), some (.int (nI i))] [] σ (fun r σ' => r = none ∧ σ' = f_resetDcs n σ) := by
  intro n
  induction n with
  | zero =>
    intro i σ hi
    refine g_iload_n d_M_resetDcs_2 rfl rfl ?_
    refine g_iconst (v := nI 3) d_M_resetDcs_3 (by decide) ?_
    refine g_icmp_ge (tgt := 22) d_M_resetDcs_4 (by decide) (fun c_4 => ?_) (fun c_4 => ?_)
    · skip
      refine g_vret d_M_resetDcs_22 rfl ?_
      exact ⟨rfl, rfl⟩
    · exact absurd (nI_le (show 3 ≤ i by omega) (by omega)) c_4
  | succ n ih =>
    intro i σ hi
    refine g_iload_n d_M_resetDcs_2 rfl rfl ?_
    refine g_iconst (v := nI 3) d_M_resetDcs_3 (by decide) ?_
    refine g_icmp_ge (tgt := 22) d_M_resetDcs_4 (by decide) (fun c_4 => ?_) (fun c_4 => ?_)
    · exact absurd c_4 (nI_ge (by omega) (by decide))
    · skip
      refine g_aload_n d_M_resetDcs_7 rfl rfl ?_
      refine g_getA d_M_resetDcs_8 fM_114 (by decide) ?_
      refine g_iload_n d_M_resetDcs_11 rfl rfl ?_
      refine g_sipush (v := nI 128) d_M_resetDcs_12 (by decide) ?_
      refine g_iastore (k := 33) d_M_resetDcs_15 rfl (by decide) (by decide) rfl (show vp_in (nI i) 3 from vp_in_nI (by omega) (by decide)) ?_
      refine g_iinc d_M_resetDcs_16 rfl ?_
      refine g_goto (tgt := 2) d_M_resetDcs_19 (by decide) ?_
      rw [nI_clamp (by omega)]
      have e1 : nI i + Int32.ofInt 1 = nI (i + 1) := nI_1 i
      have e2 : i = 3 - (n + 1) := by omega
      show GQ s0 l M_M_resetDcs hB m 2 [some (.ref m), some (.int (nI i + Int32.ofInt 1))] [] _ _
      rw [e1]
      unfold f_resetDcs
      rw [← e2]
      exact ih (i + 1) _ (by omega)
theorem m_resetDcs {s0 : State} {l : Launch} {m : Nat} {σ : Sg}  : GC s0 l M_M_resetDcs m [] σ (fun r σ' => r = none ∧ σ' = f_resetDcs 3 σ) := by
  refine g_in (by decide) rfl rfl (Nat.le_of_ble_eq_true rfl) (fun hB => ?_)
  refine g_iconst (v := nI 0) d_M_resetDcs_0 (by decide) ?_
  refine g_istore_n d_M_resetDcs_1 rfl (Nat.le_of_ble_eq_true rfl) ?_
  exact m_resetDcs_l 3 0 σ (by omega)

theorem m_begins {s0 : State} {l : Launch} {m : Nat} {σ : Sg}  : GC s0 l M_M_begins m [] σ (fun r σ' => r = none ∧ σ' = f_resetVectors 4 (f_resetDcs 3 σ)) := by
  refine g_in (by decide) rfl rfl (Nat.le_of_ble_eq_true rfl) (fun hB => ?_)
  refine g_aload_n d_M_begins_0 rfl rfl ?_
  refine g_callv (As := []) d_M_begins_1 lM_187 mv_M_resetDcs rfl rfl rfl (Nat.le_of_ble_eq_true rfl) (by decide) (m_resetDcs) ?_
  refine g_aload_n d_M_begins_4 rfl rfl ?_
  refine g_callv (As := []) d_M_begins_5 lM_190 mv_M_resetVectors rfl rfl rfl (Nat.le_of_ble_eq_true rfl) (by decide) (m_resetVectors) ?_
  refine g_vret d_M_begins_8 rfl ?_
  exact ⟨rfl, rfl⟩

theorem m_forward {s0 : State} {l : Launch} {m : Nat} {σ : Sg}  : GC s0 l M_M_forward m [] σ (fun r σ' => r = some (.ref (m + aOff (fwK σ))) ∧ σ' = σ) := by
  refine g_in (by decide) rfl rfl (Nat.le_of_ble_eq_true rfl) (fun hB => ?_)
  refine g_aload_n d_M_forward_0 rfl rfl ?_
  refine g_get d_M_forward_1 fM_70 rfl ?_
  refine g_iconst (v := nI 2) d_M_forward_4 (by decide) ?_
  refine g_icmp_ne (tgt := 15) d_M_forward_5 (by decide) (fun c_5 => ?_) (fun c_5 => ?_)
  · skip
    refine g_aload_n d_M_forward_15 rfl rfl ?_
    refine g_getA d_M_forward_16 fM_76 (by decide) ?_
    refine g_aret d_M_forward_19 rfl (Or.inr ⟨_, rfl⟩) (Or.inr ⟨_, rfl⟩) ?_
    refine ⟨?_, rfl⟩
    unfold fwK
    first | rw [if_neg c_5] | rw [if_pos c_5]
  · skip
    refine g_aload_n d_M_forward_8 rfl rfl ?_
    refine g_getA d_M_forward_9 fM_73 (by decide) ?_
    refine g_goto (tgt := 19) d_M_forward_12 (by decide) ?_
    refine g_aret d_M_forward_19 rfl (Or.inr ⟨_, rfl⟩) (Or.inr ⟨_, rfl⟩) ?_
    refine ⟨?_, rfl⟩
    unfold fwK
    first | rw [if_neg c_5] | rw [if_pos c_5]

theorem m_dotOf {s0 : State} {l : Launch} {m : Nat} {σ : Sg} {A B P k : Nat} {x y : Int32} (hD : okD σ A B) (hP : P < 3) (hk : okK k) : GC s0 l M_M_dotOf m [.ref (m + aOff k), .int (nI P), .int x, .int y] σ (fun r σ' => r = some (.int (fDot σ k (nI P) x y)) ∧ σ' = σ) := by
  refine g_in (by decide) rfl rfl (Nat.le_of_ble_eq_true rfl) (fun hB => ?_)
  have hix : ∀ (j : Int32), j = dIx σ (nI P) x y → vp_in j (aLen k) := fun j hj => by
    obtain ⟨c1, c2, -, -, -, -, e, e2⟩ := dIx_n hD hP x y
    rw [hj, e, hk.2.2.2]
    exact vp_in_nI e2 (by decide)
  refine g_aload_n d_M_dotOf_0 rfl rfl ?_
  refine g_iload_n d_M_dotOf_1 rfl rfl ?_
  refine g_calli (As := [_]) d_M_dotOf_2 lM_51 mv_M_planeWidth rfl rfl rfl (Nat.le_of_ble_eq_true rfl) (by decide) (m_planeWidth) ?_
  refine g_istore d_M_dotOf_5 (Nat.le_of_ble_eq_true rfl) ?_
  refine g_aload_n d_M_dotOf_7 rfl rfl ?_
  refine g_iload_n d_M_dotOf_8 rfl rfl ?_
  refine g_calli (As := [_]) d_M_dotOf_9 lM_54 mv_M_planeHeight rfl rfl rfl (Nat.le_of_ble_eq_true rfl) (by decide) (m_planeHeight) ?_
  refine g_istore d_M_dotOf_12 (Nat.le_of_ble_eq_true rfl) ?_
  refine g_iload_n d_M_dotOf_14 rfl rfl ?_
  refine g_if_ge (tgt := 22) d_M_dotOf_15 (by decide) (fun c_15 => ?_) (fun c_15 => ?_)
  · skip
    refine g_iload_n d_M_dotOf_22 rfl rfl ?_
    refine g_iload d_M_dotOf_23 rfl ?_
    refine g_icmp_lt (tgt := 35) d_M_dotOf_25 (by decide) (fun c_25 => ?_) (fun c_25 => ?_)
    · skip
      refine g_iload_n d_M_dotOf_35 rfl rfl ?_
      refine g_istore d_M_dotOf_36 (Nat.le_of_ble_eq_true rfl) ?_
      refine g_iload d_M_dotOf_38 rfl ?_
      refine g_if_ge (tgt := 47) d_M_dotOf_40 (by decide) (fun c_40 => ?_) (fun c_40 => ?_)
      · skip
        refine g_iload d_M_dotOf_47 rfl ?_
        refine g_iload d_M_dotOf_49 rfl ?_
        refine g_icmp_lt (tgt := 61) d_M_dotOf_51 (by decide) (fun c_51 => ?_) (fun c_51 => ?_)
        · skip
          refine g_iload d_M_dotOf_61 rfl ?_
          refine g_istore d_M_dotOf_63 (Nat.le_of_ble_eq_true rfl) ?_
          refine g_aload_n d_M_dotOf_65 rfl rfl ?_
          refine g_aload_n d_M_dotOf_66 rfl rfl ?_
          refine g_iload_n d_M_dotOf_67 rfl rfl ?_
          refine g_calli (As := [_]) d_M_dotOf_68 lM_57 mv_M_planeAt rfl rfl rfl (Nat.le_of_ble_eq_true rfl) (by decide) (m_planeAt) ?_
          refine g_iload d_M_dotOf_71 rfl ?_
          refine g_iload d_M_dotOf_73 rfl ?_
          refine g_imul d_M_dotOf_75 ?_
          refine g_iadd d_M_dotOf_76 ?_
          refine g_iload d_M_dotOf_77 rfl ?_
          refine g_iadd d_M_dotOf_79 ?_
          refine g_iaload (k := k) d_M_dotOf_80 rfl hk.1 hk.2.1 hk.2.2.1 (hix _ (by unfold dIx cl; (try simp only [c_15, if_true, if_false]); (try simp only [c_25, if_true, if_false]); (try simp only [c_40, if_true, if_false]); (try simp only [c_51, if_true, if_false]))) ?_
          refine g_iret d_M_dotOf_81 rfl rfl ?_
          exact ⟨congrArg (fun j : Int32 => some (Value.int (σ k j.toNatClampNeg))) (by unfold dIx cl; (try simp only [c_15, if_true, if_false]); (try simp only [c_25, if_true, if_false]); (try simp only [c_40, if_true, if_false]); (try simp only [c_51, if_true, if_false])), rfl⟩
        · skip
          refine g_iload d_M_dotOf_54 rfl ?_
          refine g_iconst (v := nI 1) d_M_dotOf_56 (by decide) ?_
          refine g_isub d_M_dotOf_57 ?_
          refine g_goto (tgt := 63) d_M_dotOf_58 (by decide) ?_
          refine g_istore d_M_dotOf_63 (Nat.le_of_ble_eq_true rfl) ?_
          refine g_aload_n d_M_dotOf_65 rfl rfl ?_
          refine g_aload_n d_M_dotOf_66 rfl rfl ?_
          refine g_iload_n d_M_dotOf_67 rfl rfl ?_
          refine g_calli (As := [_]) d_M_dotOf_68 lM_57 mv_M_planeAt rfl rfl rfl (Nat.le_of_ble_eq_true rfl) (by decide) (m_planeAt) ?_
          refine g_iload d_M_dotOf_71 rfl ?_
          refine g_iload d_M_dotOf_73 rfl ?_
          refine g_imul d_M_dotOf_75 ?_
          refine g_iadd d_M_dotOf_76 ?_
          refine g_iload d_M_dotOf_77 rfl ?_
          refine g_iadd d_M_dotOf_79 ?_
          refine g_iaload (k := k) d_M_dotOf_80 rfl hk.1 hk.2.1 hk.2.2.1 (hix _ (by unfold dIx cl; (try simp only [c_15, if_true, if_false]); (try simp only [c_25, if_true, if_false]); (try simp only [c_40, if_true, if_false]); (try simp only [c_51, if_true, if_false]))) ?_
          refine g_iret d_M_dotOf_81 rfl rfl ?_
          exact ⟨congrArg (fun j : Int32 => some (Value.int (σ k j.toNatClampNeg))) (by unfold dIx cl; (try simp only [c_15, if_true, if_false]); (try simp only [c_25, if_true, if_false]); (try simp only [c_40, if_true, if_false]); (try simp only [c_51, if_true, if_false])), rfl⟩
      · skip
        refine g_iconst (v := nI 0) d_M_dotOf_43 (by decide) ?_
        refine g_goto (tgt := 63) d_M_dotOf_44 (by decide) ?_
        refine g_istore d_M_dotOf_63 (Nat.le_of_ble_eq_true rfl) ?_
        refine g_aload_n d_M_dotOf_65 rfl rfl ?_
        refine g_aload_n d_M_dotOf_66 rfl rfl ?_
        refine g_iload_n d_M_dotOf_67 rfl rfl ?_
        refine g_calli (As := [_]) d_M_dotOf_68 lM_57 mv_M_planeAt rfl rfl rfl (Nat.le_of_ble_eq_true rfl) (by decide) (m_planeAt) ?_
        refine g_iload d_M_dotOf_71 rfl ?_
        refine g_iload d_M_dotOf_73 rfl ?_
        refine g_imul d_M_dotOf_75 ?_
        refine g_iadd d_M_dotOf_76 ?_
        refine g_iload d_M_dotOf_77 rfl ?_
        refine g_iadd d_M_dotOf_79 ?_
        refine g_iaload (k := k) d_M_dotOf_80 rfl hk.1 hk.2.1 hk.2.2.1 (hix _ (by unfold dIx cl; (try simp only [c_15, if_true, if_false]); (try simp only [c_25, if_true, if_false]); (try simp only [c_40, if_true, if_false]); (try simp only [c_51, if_true, if_false]))) ?_
        refine g_iret d_M_dotOf_81 rfl rfl ?_
        exact ⟨congrArg (fun j : Int32 => some (Value.int (σ k j.toNatClampNeg))) (by unfold dIx cl; (try simp only [c_15, if_true, if_false]); (try simp only [c_25, if_true, if_false]); (try simp only [c_40, if_true, if_false]); (try simp only [c_51, if_true, if_false])), rfl⟩
    · skip
      refine g_iload d_M_dotOf_28 rfl ?_
      refine g_iconst (v := nI 1) d_M_dotOf_30 (by decide) ?_
      refine g_isub d_M_dotOf_31 ?_
      refine g_goto (tgt := 36) d_M_dotOf_32 (by decide) ?_
      refine g_istore d_M_dotOf_36 (Nat.le_of_ble_eq_true rfl) ?_
      refine g_iload d_M_dotOf_38 rfl ?_
      refine g_if_ge (tgt := 47) d_M_dotOf_40 (by decide) (fun c_40 => ?_) (fun c_40 => ?_)
      · skip
        refine g_iload d_M_dotOf_47 rfl ?_
        refine g_iload d_M_dotOf_49 rfl ?_
        refine g_icmp_lt (tgt := 61) d_M_dotOf_51 (by decide) (fun c_51 => ?_) (fun c_51 => ?_)
        · skip
          refine g_iload d_M_dotOf_61 rfl ?_
          refine g_istore d_M_dotOf_63 (Nat.le_of_ble_eq_true rfl) ?_
          refine g_aload_n d_M_dotOf_65 rfl rfl ?_
          refine g_aload_n d_M_dotOf_66 rfl rfl ?_
          refine g_iload_n d_M_dotOf_67 rfl rfl ?_
          refine g_calli (As := [_]) d_M_dotOf_68 lM_57 mv_M_planeAt rfl rfl rfl (Nat.le_of_ble_eq_true rfl) (by decide) (m_planeAt) ?_
          refine g_iload d_M_dotOf_71 rfl ?_
          refine g_iload d_M_dotOf_73 rfl ?_
          refine g_imul d_M_dotOf_75 ?_
          refine g_iadd d_M_dotOf_76 ?_
          refine g_iload d_M_dotOf_77 rfl ?_
          refine g_iadd d_M_dotOf_79 ?_
          refine g_iaload (k := k) d_M_dotOf_80 rfl hk.1 hk.2.1 hk.2.2.1 (hix _ (by unfold dIx cl; (try simp only [c_15, if_true, if_false]); (try simp only [c_25, if_true, if_false]); (try simp only [c_40, if_true, if_false]); (try simp only [c_51, if_true, if_false]))) ?_
          refine g_iret d_M_dotOf_81 rfl rfl ?_
          exact ⟨congrArg (fun j : Int32 => some (Value.int (σ k j.toNatClampNeg))) (by unfold dIx cl; (try simp only [c_15, if_true, if_false]); (try simp only [c_25, if_true, if_false]); (try simp only [c_40, if_true, if_false]); (try simp only [c_51, if_true, if_false])), rfl⟩
        · skip
          refine g_iload d_M_dotOf_54 rfl ?_
          refine g_iconst (v := nI 1) d_M_dotOf_56 (by decide) ?_
          refine g_isub d_M_dotOf_57 ?_
          refine g_goto (tgt := 63) d_M_dotOf_58 (by decide) ?_
          refine g_istore d_M_dotOf_63 (Nat.le_of_ble_eq_true rfl) ?_
          refine g_aload_n d_M_dotOf_65 rfl rfl ?_
          refine g_aload_n d_M_dotOf_66 rfl rfl ?_
          refine g_iload_n d_M_dotOf_67 rfl rfl ?_
          refine g_calli (As := [_]) d_M_dotOf_68 lM_57 mv_M_planeAt rfl rfl rfl (Nat.le_of_ble_eq_true rfl) (by decide) (m_planeAt) ?_
          refine g_iload d_M_dotOf_71 rfl ?_
          refine g_iload d_M_dotOf_73 rfl ?_
          refine g_imul d_M_dotOf_75 ?_
          refine g_iadd d_M_dotOf_76 ?_
          refine g_iload d_M_dotOf_77 rfl ?_
          refine g_iadd d_M_dotOf_79 ?_
          refine g_iaload (k := k) d_M_dotOf_80 rfl hk.1 hk.2.1 hk.2.2.1 (hix _ (by unfold dIx cl; (try simp only [c_15, if_true, if_false]); (try simp only [c_25, if_true, if_false]); (try simp only [c_40, if_true, if_false]); (try simp only [c_51, if_true, if_false]))) ?_
          refine g_iret d_M_dotOf_81 rfl rfl ?_
          exact ⟨congrArg (fun j : Int32 => some (Value.int (σ k j.toNatClampNeg))) (by unfold dIx cl; (try simp only [c_15, if_true, if_false]); (try simp only [c_25, if_true, if_false]); (try simp only [c_40, if_true, if_false]); (try simp only [c_51, if_true, if_false])), rfl⟩
      · skip
        refine g_iconst (v := nI 0) d_M_dotOf_43 (by decide) ?_
        refine g_goto (tgt := 63) d_M_dotOf_44 (by decide) ?_
        refine g_istore d_M_dotOf_63 (Nat.le_of_ble_eq_true rfl) ?_
        refine g_aload_n d_M_dotOf_65 rfl rfl ?_
        refine g_aload_n d_M_dotOf_66 rfl rfl ?_
        refine g_iload_n d_M_dotOf_67 rfl rfl ?_
        refine g_calli (As := [_]) d_M_dotOf_68 lM_57 mv_M_planeAt rfl rfl rfl (Nat.le_of_ble_eq_true rfl) (by decide) (m_planeAt) ?_
        refine g_iload d_M_dotOf_71 rfl ?_
        refine g_iload d_M_dotOf_73 rfl ?_
        refine g_imul d_M_dotOf_75 ?_
        refine g_iadd d_M_dotOf_76 ?_
        refine g_iload d_M_dotOf_77 rfl ?_
        refine g_iadd d_M_dotOf_79 ?_
        refine g_iaload (k := k) d_M_dotOf_80 rfl hk.1 hk.2.1 hk.2.2.1 (hix _ (by unfold dIx cl; (try simp only [c_15, if_true, if_false]); (try simp only [c_25, if_true, if_false]); (try simp only [c_40, if_true, if_false]); (try simp only [c_51, if_true, if_false]))) ?_
        refine g_iret d_M_dotOf_81 rfl rfl ?_
        exact ⟨congrArg (fun j : Int32 => some (Value.int (σ k j.toNatClampNeg))) (by unfold dIx cl; (try simp only [c_15, if_true, if_false]); (try simp only [c_25, if_true, if_false]); (try simp only [c_40, if_true, if_false]); (try simp only [c_51, if_true, if_false])), rfl⟩
  · skip
    refine g_iconst (v := nI 0) d_M_dotOf_18 (by decide) ?_
    refine g_goto (tgt := 36) d_M_dotOf_19 (by decide) ?_
    refine g_istore d_M_dotOf_36 (Nat.le_of_ble_eq_true rfl) ?_
    refine g_iload d_M_dotOf_38 rfl ?_
    refine g_if_ge (tgt := 47) d_M_dotOf_40 (by decide) (fun c_40 => ?_) (fun c_40 => ?_)
    · skip
      refine g_iload d_M_dotOf_47 rfl ?_
      refine g_iload d_M_dotOf_49 rfl ?_
      refine g_icmp_lt (tgt := 61) d_M_dotOf_51 (by decide) (fun c_51 => ?_) (fun c_51 => ?_)
      · skip
        refine g_iload d_M_dotOf_61 rfl ?_
        refine g_istore d_M_dotOf_63 (Nat.le_of_ble_eq_true rfl) ?_
        refine g_aload_n d_M_dotOf_65 rfl rfl ?_
        refine g_aload_n d_M_dotOf_66 rfl rfl ?_
        refine g_iload_n d_M_dotOf_67 rfl rfl ?_
        refine g_calli (As := [_]) d_M_dotOf_68 lM_57 mv_M_planeAt rfl rfl rfl (Nat.le_of_ble_eq_true rfl) (by decide) (m_planeAt) ?_
        refine g_iload d_M_dotOf_71 rfl ?_
        refine g_iload d_M_dotOf_73 rfl ?_
        refine g_imul d_M_dotOf_75 ?_
        refine g_iadd d_M_dotOf_76 ?_
        refine g_iload d_M_dotOf_77 rfl ?_
        refine g_iadd d_M_dotOf_79 ?_
        refine g_iaload (k := k) d_M_dotOf_80 rfl hk.1 hk.2.1 hk.2.2.1 (hix _ (by unfold dIx cl; (try simp only [c_15, if_true, if_false]); (try simp only [c_25, if_true, if_false]); (try simp only [c_40, if_true, if_false]); (try simp only [c_51, if_true, if_false]))) ?_
        refine g_iret d_M_dotOf_81 rfl rfl ?_
        exact ⟨congrArg (fun j : Int32 => some (Value.int (σ k j.toNatClampNeg))) (by unfold dIx cl; (try simp only [c_15, if_true, if_false]); (try simp only [c_25, if_true, if_false]); (try simp only [c_40, if_true, if_false]); (try simp only [c_51, if_true, if_false])), rfl⟩
      · skip
        refine g_iload d_M_dotOf_54 rfl ?_
        refine g_iconst (v := nI 1) d_M_dotOf_56 (by decide) ?_
        refine g_isub d_M_dotOf_57 ?_
        refine g_goto (tgt := 63) d_M_dotOf_58 (by decide) ?_
        refine g_istore d_M_dotOf_63 (Nat.le_of_ble_eq_true rfl) ?_
        refine g_aload_n d_M_dotOf_65 rfl rfl ?_
        refine g_aload_n d_M_dotOf_66 rfl rfl ?_
        refine g_iload_n d_M_dotOf_67 rfl rfl ?_
        refine g_calli (As := [_]) d_M_dotOf_68 lM_57 mv_M_planeAt rfl rfl rfl (Nat.le_of_ble_eq_true rfl) (by decide) (m_planeAt) ?_
        refine g_iload d_M_dotOf_71 rfl ?_
        refine g_iload d_M_dotOf_73 rfl ?_
        refine g_imul d_M_dotOf_75 ?_
        refine g_iadd d_M_dotOf_76 ?_
        refine g_iload d_M_dotOf_77 rfl ?_
        refine g_iadd d_M_dotOf_79 ?_
        refine g_iaload (k := k) d_M_dotOf_80 rfl hk.1 hk.2.1 hk.2.2.1 (hix _ (by unfold dIx cl; (try simp only [c_15, if_true, if_false]); (try simp only [c_25, if_true, if_false]); (try simp only [c_40, if_true, if_false]); (try simp only [c_51, if_true, if_false]))) ?_
        refine g_iret d_M_dotOf_81 rfl rfl ?_
        exact ⟨congrArg (fun j : Int32 => some (Value.int (σ k j.toNatClampNeg))) (by unfold dIx cl; (try simp only [c_15, if_true, if_false]); (try simp only [c_25, if_true, if_false]); (try simp only [c_40, if_true, if_false]); (try simp only [c_51, if_true, if_false])), rfl⟩
    · skip
      refine g_iconst (v := nI 0) d_M_dotOf_43 (by decide) ?_
      refine g_goto (tgt := 63) d_M_dotOf_44 (by decide) ?_
      refine g_istore d_M_dotOf_63 (Nat.le_of_ble_eq_true rfl) ?_
      refine g_aload_n d_M_dotOf_65 rfl rfl ?_
      refine g_aload_n d_M_dotOf_66 rfl rfl ?_
      refine g_iload_n d_M_dotOf_67 rfl rfl ?_
      refine g_calli (As := [_]) d_M_dotOf_68 lM_57 mv_M_planeAt rfl rfl rfl (Nat.le_of_ble_eq_true rfl) (by decide) (m_planeAt) ?_
      refine g_iload d_M_dotOf_71 rfl ?_
      refine g_iload d_M_dotOf_73 rfl ?_
      refine g_imul d_M_dotOf_75 ?_
      refine g_iadd d_M_dotOf_76 ?_
      refine g_iload d_M_dotOf_77 rfl ?_
      refine g_iadd d_M_dotOf_79 ?_
      refine g_iaload (k := k) d_M_dotOf_80 rfl hk.1 hk.2.1 hk.2.2.1 (hix _ (by unfold dIx cl; (try simp only [c_15, if_true, if_false]); (try simp only [c_25, if_true, if_false]); (try simp only [c_40, if_true, if_false]); (try simp only [c_51, if_true, if_false]))) ?_
      refine g_iret d_M_dotOf_81 rfl rfl ?_
      exact ⟨congrArg (fun j : Int32 => some (Value.int (σ k j.toNatClampNeg))) (by unfold dIx cl; (try simp only [c_15, if_true, if_false]); (try simp only [c_25, if_true, if_false]); (try simp only [c_40, if_true, if_false]); (try simp only [c_51, if_true, if_false])), rfl⟩

