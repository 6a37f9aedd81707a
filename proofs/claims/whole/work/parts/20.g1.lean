section GC2
variable {s0 : State} {l : Launch} {M M' : MI} {hB : Mem} {m pc : Nat} {L : List (Option Value)} {st0 rest : List Value} {σ τ : Sg} {P : Option Value → Sg → Prop} {As : List Value} {v : Int32}
theorem g_calli {idx n : Nat} (hd : decode (iC M) pc = .ok (.invokevirtual idx, 3)) (hl : Cond.methodLink (iY M).cls idx (iY M') ∈ lw_tbl) (mv : MV M' 7 n) (hH : iH M' = []) (hn : As.length = n) (hs : st0 = As.reverse ++ .ref m :: rest) (hw : (rest.map fun v => v.category).sum ≤ 8) (hr : iF M' + 1 ≤ iF M ∧ 8 + (iL M' + 11) + iW M' ≤ iW M)
    (hc : GC s0 l M' m As σ (fun r σ' => r = some (.int v) ∧ σ' = τ)) (kk : GQ s0 l M hB m (pc + 3) L (.int v :: rest) τ P) : GQ s0 l M hB m pc L st0 σ P :=
  g_call hd hl mv hH hn hs hw hr hc (fun r σ' q => by obtain ⟨rfl, rfl⟩ := q; exact kk)
theorem g_callv {idx n : Nat} (hd : decode (iC M) pc = .ok (.invokevirtual idx, 3)) (hl : Cond.methodLink (iY M).cls idx (iY M') ∈ lw_tbl) (mv : MV M' 7 n) (hH : iH M' = []) (hn : As.length = n) (hs : st0 = As.reverse ++ .ref m :: rest) (hw : (rest.map fun v => v.category).sum ≤ 8) (hr : iF M' + 1 ≤ iF M ∧ 8 + (iL M' + 11) + iW M' ≤ iW M)
    (hc : GC s0 l M' m As σ (fun r σ' => r = none ∧ σ' = τ)) (kk : GQ s0 l M hB m (pc + 3) L rest τ P) : GQ s0 l M hB m pc L st0 σ P :=
  g_call hd hl mv hH hn hs hw hr hc (fun r σ' q => by obtain ⟨rfl, rfl⟩ := q; exact kk)
theorem g_callw {w : Value} {idx n : Nat} (hd : decode (iC M) pc = .ok (.invokevirtual idx, 3)) (hl : Cond.methodLink (iY M).cls idx (iY M') ∈ lw_tbl) (mv : MV M' 7 n) (hH : iH M' = []) (hn : As.length = n) (hs : st0 = As.reverse ++ .ref m :: rest) (hw : (rest.map fun v => v.category).sum ≤ 8) (hr : iF M' + 1 ≤ iF M ∧ 8 + (iL M' + 11) + iW M' ≤ iW M)
    (hc : GC s0 l M' m As σ (fun r σ' => r = some w ∧ σ' = τ)) (kk : GQ s0 l M hB m (pc + 3) L (w :: rest) τ P) : GQ s0 l M hB m pc L st0 σ P :=
  g_call hd hl mv hH hn hs hw hr hc (fun r σ' q => by obtain ⟨rfl, rfl⟩ := q; exact kk)
/-- a static method that reads nothing and changes nothing -/
theorem g_calls {idx n : Nat} (hd : decode (iC M) pc = .ok (.invokestatic idx, 3)) (hl : Cond.methodLink (iY M).cls idx (iY M') ∈ lw_tbl) (mv : MS M' n) (hH : iH M' = []) (hn : As.length = n) (hs : st0 = As.reverse ++ rest) (hw : (rest.map fun v => v.category).sum ≤ 8) (hr : iF M' + 1 ≤ iF M ∧ 8 + (iL M' + 11) + iW M' ≤ iW M)
    (hc : ∀ h, WV s0 h → CQ s0 l M' As h (fun o h' => o = .inl (some (.int v)) ∧ h' = h)) (kk : GQ s0 l M hB m (pc + 3) L (.int v :: rest) σ P) : GQ s0 l M hB m pc L st0 σ P := fun h hM => by
  refine q_callS hd hl mv hH hn hs hw hr (hc h hM.1.1) (fun v9 h1 q => ?_) (fun E0 h1 q => ?_)
  · obtain ⟨e, rfl⟩ := q
    cases e
    exact kk _ hM
  · obtain ⟨e, -⟩ := q
    cases e
end GC2
/-- where something is wrong: the first one stays -/
def fW (σ : Sg) (p : Int32) : Sg := if 0 ≤ σ 6 0 then σ else su σ 6 0 p
def fBit (σ : Sg) : Int32 × Sg := if 0 ≤ σ 6 0 then (0, σ) else if σ 4 0 = σ 5 0 then (0, fW σ (σ 5 0)) else (σ 3 (σ 4 0).toNatClampNeg, su σ 4 0 (σ 4 0 + 1))
/-- the reading place: within the tape -/
def okA (σ : Sg) : Prop := ∃ p e, σ 4 0 = nI p ∧ σ 5 0 = nI e ∧ p ≤ e ∧ e ≤ 32000
theorem add1_sub1 (x : Int32) : x + nI 1 - nI 1 = x := Int32.add_sub_cancel _ _
theorem nI1 : nI 1 = 1 := rfl
theorem nI2 : nI 2 = 2 := rfl
theorem okA.fW {σ : Sg} {p : Int32} (h : okA σ) : okA (fW σ p) := by
  unfold Jvm.Pilot.@@N@@.fW
  split
  · exact h
  · exact h
theorem okA.bit {σ : Sg} (h : okA σ) : okA (fBit σ).2 := by
  unfold fBit
  split
  · exact h
  · split
    · exact h.fW
    · rename_i h1 h2
      obtain ⟨p, e, a1, a2, a3, a4⟩ := h
      have hne : p ≠ e := fun z => h2 (by rw [a1, a2, z])
      exact ⟨p + 1, e, by show su σ 4 0 (σ 4 0 + 1) 4 0 = _; rw [su_at, a1, nI_1], a2, by omega, a4⟩
def fNum : Nat → Int32 → Sg → Int32 × Sg
  | 0, v, σ => (v, σ)
  | n + 1, v, σ => fNum n (2 * v + (fBit σ).1) (fBit σ).2
theorem okA.num : ∀ (n : Nat) (v : Int32) {σ : Sg}, okA σ → okA (fNum n v σ).2
  | 0, _, _, h => h
  | n + 1, v, σ, h => okA.num n _ h.bit

theorem m_isWrong {s0 : State} {l : Launch} {m : Nat} {σ : Sg} {p : Int32} : GC s0 l M_M_isWrong m [.int p] σ (fun r σ' => r = some (.int 1) ∧ σ' = fW σ p) := by
  refine g_in (by decide) rfl rfl (Nat.le_of_ble_eq_true rfl) (fun hB => ?_)
  refine g_aload_n d_M_isWrong_0 rfl rfl ?_
  refine g_get d_M_isWrong_1 fM_7 rfl ?_
  refine g_if_ge (tgt := 12) d_M_isWrong_4 (by decide) (fun c_4 => ?_) (fun c_4 => ?_)
  · skip
    refine g_iconst (v := nI 1) d_M_isWrong_12 (by decide) ?_
    refine g_iret d_M_isWrong_13 rfl rfl ?_
    refine ⟨rfl, ?_⟩
    simp [fW, c_4]
  · skip
    refine g_aload_n d_M_isWrong_7 rfl rfl ?_
    refine g_iload_n d_M_isWrong_8 rfl rfl ?_
    refine g_put d_M_isWrong_9 fM_7 rfl rfl rfl rfl ?_
    refine g_iconst (v := nI 1) d_M_isWrong_12 (by decide) ?_
    refine g_iret d_M_isWrong_13 rfl rfl ?_
    refine ⟨rfl, ?_⟩
    simp [fW, c_4]

theorem m_bit {s0 : State} {l : Launch} {m : Nat} {σ : Sg} (hA : okA σ) : GC s0 l M_M_bit m [] σ (fun r σ' => r = some (.int (fBit σ).1) ∧ σ' = (fBit σ).2) := by
  refine g_in (by decide) rfl rfl (Nat.le_of_ble_eq_true rfl) (fun hB => ?_)
  obtain ⟨p, e, h1, h2, h3, h4⟩ := hA
  refine g_aload_n d_M_bit_0 rfl rfl ?_
  refine g_get d_M_bit_1 fM_7 rfl ?_
  refine g_if_lt (tgt := 9) d_M_bit_4 (by decide) (fun c_4 => ?_) (fun c_4 => ?_)
  · skip
    refine g_aload_n d_M_bit_9 rfl rfl ?_
    refine g_get d_M_bit_10 fM_10 rfl ?_
    refine g_aload_n d_M_bit_13 rfl rfl ?_
    refine g_get d_M_bit_14 fM_13 rfl ?_
    refine g_icmp_ne (tgt := 31) d_M_bit_17 (by decide) (fun c_17 => ?_) (fun c_17 => ?_)
    · skip
      refine g_aload_n d_M_bit_31 rfl rfl ?_
      refine g_dup d_M_bit_32 rfl ?_
      refine g_get d_M_bit_33 fM_10 rfl ?_
      refine g_iconst (v := nI 1) d_M_bit_36 (by decide) ?_
      refine g_iadd d_M_bit_37 ?_
      refine g_put d_M_bit_38 fM_10 rfl rfl rfl rfl ?_
      have hlt : p < 32000 := by have hne : p ≠ e := fun z => c_17 (by rw [h1, h2, z])
                                 omega
      refine g_aload_n d_M_bit_41 rfl rfl ?_
      refine g_getA d_M_bit_42 fM_20 (by decide) ?_
      refine g_aload_n d_M_bit_45 rfl rfl ?_
      refine g_get d_M_bit_46 fM_10 rfl ?_
      refine g_iconst (v := nI 1) d_M_bit_49 (by decide) ?_
      refine g_isub d_M_bit_50 ?_
      refine g_baload (k := 3) d_M_bit_51 rfl (by decide) (by decide) rfl (by rw [su_at, add1_sub1, h1]; exact vp_in_nI hlt (by decide)) ?_
      refine g_iret d_M_bit_52 rfl rfl ?_
      unfold fBit
      rw [if_neg (Int32.not_le.mpr c_4), if_neg c_17]
      exact ⟨by rw [su_at, add1_sub1]; rfl, rfl⟩
    · skip
      refine g_aload_n d_M_bit_20 rfl rfl ?_
      refine g_aload_n d_M_bit_21 rfl rfl ?_
      refine g_get d_M_bit_22 fM_13 rfl ?_
      refine g_calli (As := [_]) d_M_bit_25 lM_16 mv_M_isWrong rfl rfl rfl (Nat.le_of_ble_eq_true rfl) (by decide) (m_isWrong) ?_
      refine g_istore_n d_M_bit_28 rfl (Nat.le_of_ble_eq_true rfl) ?_
      refine g_iconst (v := nI 0) d_M_bit_29 (by decide) ?_
      refine g_iret d_M_bit_30 rfl rfl ?_
      unfold fBit
      rw [if_neg (Int32.not_le.mpr c_4), if_pos c_17]
      exact ⟨rfl, rfl⟩
  · skip
    refine g_iconst (v := nI 0) d_M_bit_7 (by decide) ?_
    refine g_iret d_M_bit_8 rfl rfl ?_
    unfold fBit
    rw [if_pos (Int32.not_lt.mp c_4)]
    exact ⟨rfl, rfl⟩

theorem m_number_l {s0 : State} {l : Launch} {hB : Mem} {m N : Nat} (hN : N < 2 ^ 31) : ∀ (n i : Nat) (v : Int32) (σ : Sg), okA σ → i + n = N → GQ s0 l M_M_number hB m 4 [some (.ref m), some (.int (nI N)), some (.int v), some (.int (nI i))] [] σ (fun r σ' => r = some (.int (fNum n v σ).1) ∧ σ' = (fNum n v σ).2) := by
  intro n
  induction n with
  | zero =>
    intro i v σ hA hi
    refine g_iload_n d_M_number_4 rfl rfl ?_
    refine g_iload_n d_M_number_5 rfl rfl ?_
    refine g_icmp_ge (tgt := 24) d_M_number_6 (by decide) (fun c_6 => ?_) (fun c_6 => ?_)
    · skip
      refine g_iload_n d_M_number_24 rfl rfl ?_
      refine g_iret d_M_number_25 rfl rfl ?_
      exact ⟨rfl, rfl⟩
    · exact absurd (nI_le (show N ≤ i by omega) (by omega)) c_6
  | succ n ih =>
    intro i v σ hA hi
    refine g_iload_n d_M_number_4 rfl rfl ?_
    refine g_iload_n d_M_number_5 rfl rfl ?_
    refine g_icmp_ge (tgt := 24) d_M_number_6 (by decide) (fun c_6 => ?_) (fun c_6 => ?_)
    · exact absurd c_6 (nI_ge (by omega) hN)
    · skip
      refine g_iconst (v := nI 2) d_M_number_9 (by decide) ?_
      refine g_iload_n d_M_number_10 rfl rfl ?_
      refine g_imul d_M_number_11 ?_
      refine g_aload_n d_M_number_12 rfl rfl ?_
      refine g_calli (As := []) d_M_number_13 lM_24 mv_M_bit rfl rfl rfl (Nat.le_of_ble_eq_true rfl) (by decide) (m_bit hA) ?_
      refine g_iadd d_M_number_16 ?_
      refine g_istore_n d_M_number_17 rfl (Nat.le_of_ble_eq_true rfl) ?_
      refine g_iinc d_M_number_18 rfl ?_
      refine g_goto (tgt := 4) d_M_number_21 (by decide) ?_
      have e1 : nI i + Int32.ofInt 1 = nI (i + 1) := nI_1 i
      show GQ s0 l M_M_number hB m 4 [some (.ref m), some (.int (nI N)), some (.int (nI 2 * v + (fBit σ).1)), some (.int (nI i + Int32.ofInt 1))] [] _ _
      rw [e1]
      exact ih (i + 1) _ _ hA.bit (by omega)
theorem m_number {s0 : State} {l : Launch} {m : Nat} {σ : Sg} {n : Nat} (hA : okA σ) (hn : n < 2 ^ 31) : GC s0 l M_M_number m [.int (nI n)] σ (fun r σ' => r = some (.int (fNum n 0 σ).1) ∧ σ' = (fNum n 0 σ).2) := by
  refine g_in (by decide) rfl rfl (Nat.le_of_ble_eq_true rfl) (fun hB => ?_)
  refine g_iconst (v := nI 0) d_M_number_0 (by decide) ?_
  refine g_istore_n d_M_number_1 rfl (Nat.le_of_ble_eq_true rfl) ?_
  refine g_iconst (v := nI 0) d_M_number_2 (by decide) ?_
  refine g_istore_n d_M_number_3 rfl (Nat.le_of_ble_eq_true rfl) ?_
  exact m_number_l hn n 0 0 σ hA (by omega)

def fNA (n : Nat) (σ : Sg) : Int32 × Sg := ((fNum n 0 σ).1, if 0 ≤ (fNum n 0 σ).2 6 0 then (fNum n 0 σ).2 else if (fNum n 0 σ).1 = 0 then fW (fNum n 0 σ).2 ((fNum n 0 σ).2 4 0 - nI 1) else (fNum n 0 σ).2)
theorem okA.na {n : Nat} {σ : Sg} (h : okA σ) : okA (fNA n σ).2 := by
  unfold fNA
  have := okA.num n 0 h
  split
  · exact this
  · split
    · exact this.fW
    · exact this
def fUt (z : Nat) (σ : Sg) : Int32 × Sg := if 0 ≤ σ 6 0 then (0, σ) else (nI 1 <<< (nI z &&& 31) - nI 1 + (fNum z 0 σ).1, (fNum z 0 σ).2)
def fU : Nat → Nat → Sg → Int32 × Sg
  | 0, _, σ => (0, σ)
  | f + 1, z, σ => if 0 ≤ σ 6 0 then fUt z σ else if (fBit σ).1 = 0 then (if 0 ≤ (fBit σ).2 6 0 then (0, (fBit σ).2) else if z + 1 = 21 then fU f (z + 1) (fW (fBit σ).2 ((fBit σ).2 4 0 - nI 1)) else fU f (z + 1) (fBit σ).2) else fUt z (fBit σ).2
def sgnU (n : Int32) : Int32 := if n - n / nI 2 * nI 2 = nI 1 then (n + nI 1) / nI 2 else -(n / nI 2)
theorem bit_at {σ : Sg} (h : okA σ) (h1 : ¬ 0 ≤ σ 6 0) (h2 : ¬ 0 ≤ (fBit σ).2 6 0) : ∃ p e, σ 4 0 = nI p ∧ σ 5 0 = nI e ∧ p < e ∧ e ≤ 32000 ∧ fBit σ = (σ 3 p, su σ 4 0 (nI (p + 1))) := by
  obtain ⟨p, e, a1, a2, a3, a4⟩ := h
  unfold fBit at h2 ⊢
  rw [if_neg h1] at h2 ⊢
  split at h2
  · rename_i h3
    exfalso
    apply h2
    unfold fW
    rw [if_neg h1]
    show 0 ≤ su σ 6 0 (σ 5 0) 6 0
    rw [su_at, a2]
    exact nI_pos' (by omega)
  · rename_i h3
    have hne : p ≠ e := fun z => h3 (by rw [a1, a2, z])
    rw [if_neg h3]
    exact ⟨p, e, a1, a2, by omega, a4, by rw [a1, nI_1, nI_clamp (by omega)]⟩
theorem wrong_in {σ : Sg} (h : okA σ) (h1 : ¬ 0 ≤ σ 6 0) (h2 : ¬ 0 ≤ (fBit σ).2 6 0) : 0 ≤ fW (fBit σ).2 ((fBit σ).2 4 0 - nI 1) 6 0 := by
  obtain ⟨p, e, a1, a2, a3, a4, a5⟩ := bit_at h h1 h2
  rw [a5] at h2 ⊢
  unfold fW
  rw [if_neg h2, su_at]
  show 0 ≤ su σ 4 0 (nI (p + 1)) 4 0 - nI 1
  rw [su_at, pk_sub (by omega)]
  exact nI_pos' (by omega)
theorem okA.ut {z : Nat} {σ : Sg} (h : okA σ) : okA (fUt z σ).2 := by
  unfold fUt
  split
  · exact h
  · exact okA.num z 0 h
theorem okA.u : ∀ (f z : Nat) {σ : Sg}, okA σ → okA (fU f z σ).2
  | 0, _, _, h => h
  | f + 1, z, σ, h => by
    unfold fU
    split
    · exact h.ut
    · split
      · split
        · exact h.bit
        · split
          · exact okA.u f _ h.bit.fW
          · exact okA.u f _ h.bit
      · exact h.bit.ut
def fAl : Nat → Sg → Sg
  | 0, σ => σ
  | f + 1, σ => if 0 ≤ σ 6 0 then σ else if σ 4 0 - σ 4 0 / nI 8 * nI 8 = 0 then σ else fAl f (if (fBit σ).1 = nI 1 then fW (fBit σ).2 ((fBit σ).2 4 0 - nI 1) else (fBit σ).2)
theorem okA.al : ∀ (f : Nat) {σ : Sg}, okA σ → okA (fAl f σ)
  | 0, _, h => h
  | f + 1, σ, h => by
    unfold fAl
    split
    · exact h
    · split
      · exact h
      · refine okA.al f ?_
        split
        · exact h.bit.fW
        · exact h.bit
theorem m_numberAbove {s0 : State} {l : Launch} {m : Nat} {σ : Sg} {n : Nat} (hA : okA σ) (hn : n < 2 ^ 31) : GC s0 l M_M_numberAbove m [.int (nI n)] σ (fun r σ' => r = some (.int (fNA n σ).1) ∧ σ' = (fNA n σ).2) := by
  refine g_in (by decide) rfl rfl (Nat.le_of_ble_eq_true rfl) (fun hB => ?_)
  refine g_aload_n d_M_numberAbove_0 rfl rfl ?_
  refine g_iload_n d_M_numberAbove_1 rfl rfl ?_
  refine g_calli (As := [_]) d_M_numberAbove_2 lM_28 mv_M_number rfl rfl rfl (Nat.le_of_ble_eq_true rfl) (by decide) (m_number hA hn) ?_
  refine g_istore_n d_M_numberAbove_5 rfl (Nat.le_of_ble_eq_true rfl) ?_
  refine g_aload_n d_M_numberAbove_6 rfl rfl ?_
  refine g_get d_M_numberAbove_7 fM_7 rfl ?_
  refine g_if_ge (tgt := 28) d_M_numberAbove_10 (by decide) (fun c_10 => ?_) (fun c_10 => ?_)
  · skip
    refine g_iload_n d_M_numberAbove_28 rfl rfl ?_
    refine g_iret d_M_numberAbove_29 rfl rfl ?_
    refine ⟨rfl, ?_⟩
    unfold fNA
    simp only [c_10, if_true, if_false]
    try simp only [c_14, if_true, if_false]
  · skip
    refine g_iload_n d_M_numberAbove_13 rfl rfl ?_
    refine g_if_ne (tgt := 28) d_M_numberAbove_14 (by decide) (fun c_14 => ?_) (fun c_14 => ?_)
    · skip
      refine g_iload_n d_M_numberAbove_28 rfl rfl ?_
      refine g_iret d_M_numberAbove_29 rfl rfl ?_
      refine ⟨rfl, ?_⟩
      unfold fNA
      simp only [c_10, if_true, if_false]
      try simp only [c_14, if_true, if_false]
    · skip
      refine g_aload_n d_M_numberAbove_17 rfl rfl ?_
      refine g_aload_n d_M_numberAbove_18 rfl rfl ?_
      refine g_get d_M_numberAbove_19 fM_10 rfl ?_
      refine g_iconst (v := nI 1) d_M_numberAbove_22 (by decide) ?_
      refine g_isub d_M_numberAbove_23 ?_
      refine g_calli (As := [_]) d_M_numberAbove_24 lM_16 mv_M_isWrong rfl rfl rfl (Nat.le_of_ble_eq_true rfl) (by decide) (m_isWrong) ?_
      refine g_istore_n d_M_numberAbove_27 rfl (Nat.le_of_ble_eq_true rfl) ?_
      refine g_iload_n d_M_numberAbove_28 rfl rfl ?_
      refine g_iret d_M_numberAbove_29 rfl rfl ?_
      refine ⟨rfl, ?_⟩
      unfold fNA
      simp only [c_10, if_true, if_false]
      try simp only [c_14, if_true, if_false]

theorem m_readU_t {s0 : State} {l : Launch} {hB : Mem} {m z : Nat} {y : Option Value} {σ : Sg} (hA : okA σ) (hz : z ≤ 21) : GQ s0 l M_M_readU hB m 48 [some (.ref m), some (.int (nI z)), y] [] σ (fun r σ' => r = some (.int (fUt z σ).1) ∧ σ' = (fUt z σ).2) := by
  refine g_aload_n d_M_readU_48 rfl rfl ?_
  refine g_get d_M_readU_49 fM_7 rfl ?_
  refine g_if_lt (tgt := 57) d_M_readU_52 (by decide) (fun c_52 => ?_) (fun c_52 => ?_)
  · skip
    refine g_iconst (v := nI 1) d_M_readU_57 (by decide) ?_
    refine g_iload_n d_M_readU_58 rfl rfl ?_
    refine g_ishl d_M_readU_59 ?_
    refine g_iconst (v := nI 1) d_M_readU_60 (by decide) ?_
    refine g_isub d_M_readU_61 ?_
    refine g_aload_n d_M_readU_62 rfl rfl ?_
    refine g_iload_n d_M_readU_63 rfl rfl ?_
    refine g_calli (As := [_]) d_M_readU_64 lM_28 mv_M_number rfl rfl rfl (Nat.le_of_ble_eq_true rfl) (by decide) (m_number hA (by omega)) ?_
    refine g_iadd d_M_readU_67 ?_
    refine g_iret d_M_readU_68 rfl rfl ?_
    unfold fUt
    rw [if_neg (Int32.not_le.mpr c_52)]
    exact ⟨rfl, rfl⟩
  · skip
    refine g_iconst (v := nI 0) d_M_readU_55 (by decide) ?_
    refine g_iret d_M_readU_56 rfl rfl ?_
    unfold fUt
    rw [if_pos (Int32.not_lt.mp c_52)]
    exact ⟨rfl, rfl⟩
theorem m_readU_l {s0 : State} {l : Launch} {hB : Mem} {m : Nat} : ∀ (f z : Nat) (y : Option Value) (σ : Sg), okA σ → z + f = 22 → z ≤ 21 → (z = 21 → 0 ≤ σ 6 0) → GQ s0 l M_M_readU hB m 2 [some (.ref m), some (.int (nI z)), y] [] σ (fun r σ' => r = some (.int (fU f z σ).1) ∧ σ' = (fU f z σ).2) := by
  intro f
  induction f with
  | zero => intro z y σ hA hf hz; omega
  | succ f ih =>
    intro z y σ hA hf hz hw
    unfold fU
    refine g_aload_n d_M_readU_2 rfl rfl ?_
    refine g_get d_M_readU_3 fM_7 rfl ?_
    refine g_if_ge (tgt := 48) d_M_readU_6 (by decide) (fun c_6 => ?_) (fun c_6 => ?_)
    · skip
      first | (rw [if_pos c_6]; exact m_readU_t hA hz) | (rw [if_neg c_13]; exact m_readU_t hA.bit hz)
    · skip
      rw [if_neg c_6]
      refine g_aload_n d_M_readU_9 rfl rfl ?_
      refine g_calli (As := []) d_M_readU_10 lM_24 mv_M_bit rfl rfl rfl (Nat.le_of_ble_eq_true rfl) (by decide) (m_bit hA) ?_
      refine g_if_ne (tgt := 48) d_M_readU_13 (by decide) (fun c_13 => ?_) (fun c_13 => ?_)
      · skip
        first | (rw [if_pos c_6]; exact m_readU_t hA hz) | (rw [if_neg c_13]; exact m_readU_t hA.bit hz)
      · skip
        refine g_aload_n d_M_readU_16 rfl rfl ?_
        refine g_get d_M_readU_17 fM_7 rfl ?_
        refine g_if_lt (tgt := 25) d_M_readU_20 (by decide) (fun c_20 => ?_) (fun c_20 => ?_)
        · skip
          refine g_iinc d_M_readU_25 rfl ?_
          refine g_iload_n d_M_readU_28 rfl rfl ?_
          refine g_bipush (v := nI 21) d_M_readU_29 (by decide) ?_
          refine g_icmp_ne (tgt := 2) d_M_readU_31 (by decide) (fun c_31 => ?_) (fun c_31 => ?_)
          · skip
            rw [if_pos c_13, if_neg (Int32.not_le.mpr c_20)]
            have e1 : nI z + Int32.ofInt 1 = nI (z + 1) := nI_1 z
            first
              | (have hz1 : z + 1 = 21 := Classical.byContradiction (fun h9 => h9 ((nI_eq (by omega) (by omega)).mp (e1.symm.trans c_31)))
                 rw [if_pos hz1]
                 show GQ s0 l M_M_readU hB m 2 [some (.ref m), some (.int (nI z + Int32.ofInt 1)), some (.int 1)] [] _ _
                 rw [e1]
                 exact ih (z + 1) _ _ hA.bit.fW (by omega) (by omega) (fun _ => wrong_in hA c_6 (Int32.not_le.mpr c_20)))
              | (have hz1 : ¬ z + 1 = 21 := fun h9 => c_31 (by show nI z + Int32.ofInt 1 = nI 21; rw [e1, h9])
                 rw [if_neg hz1]
                 show GQ s0 l M_M_readU hB m 2 [some (.ref m), some (.int (nI z + Int32.ofInt 1)), y] [] _ _
                 rw [e1]
                 exact ih (z + 1) _ _ hA.bit (by omega) (by have : z ≠ 21 := fun h9 => c_6 (hw h9); omega) (fun h9 => absurd h9 hz1))
          · skip
            refine g_aload_n d_M_readU_34 rfl rfl ?_
            refine g_aload_n d_M_readU_35 rfl rfl ?_
            refine g_get d_M_readU_36 fM_10 rfl ?_
            refine g_iconst (v := nI 1) d_M_readU_39 (by decide) ?_
            refine g_isub d_M_readU_40 ?_
            refine g_calli (As := [_]) d_M_readU_41 lM_16 mv_M_isWrong rfl rfl rfl (Nat.le_of_ble_eq_true rfl) (by decide) (m_isWrong) ?_
            refine g_istore_n d_M_readU_44 rfl (Nat.le_of_ble_eq_true rfl) ?_
            refine g_goto (tgt := 2) d_M_readU_45 (by decide) ?_
            rw [if_pos c_13, if_neg (Int32.not_le.mpr c_20)]
            have e1 : nI z + Int32.ofInt 1 = nI (z + 1) := nI_1 z
            first
              | (have hz1 : z + 1 = 21 := Classical.byContradiction (fun h9 => h9 ((nI_eq (by omega) (by omega)).mp (e1.symm.trans c_31)))
                 rw [if_pos hz1]
                 show GQ s0 l M_M_readU hB m 2 [some (.ref m), some (.int (nI z + Int32.ofInt 1)), some (.int 1)] [] _ _
                 rw [e1]
                 exact ih (z + 1) _ _ hA.bit.fW (by omega) (by omega) (fun _ => wrong_in hA c_6 (Int32.not_le.mpr c_20)))
              | (have hz1 : ¬ z + 1 = 21 := fun h9 => c_31 (by show nI z + Int32.ofInt 1 = nI 21; rw [e1, h9])
                 rw [if_neg hz1]
                 show GQ s0 l M_M_readU hB m 2 [some (.ref m), some (.int (nI z + Int32.ofInt 1)), y] [] _ _
                 rw [e1]
                 exact ih (z + 1) _ _ hA.bit (by omega) (by have : z ≠ 21 := fun h9 => c_6 (hw h9); omega) (fun h9 => absurd h9 hz1))
        · skip
          refine g_iconst (v := nI 0) d_M_readU_23 (by decide) ?_
          refine g_iret d_M_readU_24 rfl rfl ?_
          rw [if_pos c_13, if_pos (Int32.not_lt.mp c_20)]
          exact ⟨rfl, rfl⟩
theorem m_readU {s0 : State} {l : Launch} {m : Nat} {σ : Sg} (hA : okA σ) : GC s0 l M_M_readU m [] σ (fun r σ' => r = some (.int (fU 22 0 σ).1) ∧ σ' = (fU 22 0 σ).2) := by
  refine g_in (by decide) rfl rfl (Nat.le_of_ble_eq_true rfl) (fun hB => ?_)
  refine g_iconst (v := nI 0) d_M_readU_0 (by decide) ?_
  refine g_istore_n d_M_readU_1 rfl (Nat.le_of_ble_eq_true rfl) ?_
  exact m_readU_l 22 0 none σ hA (by omega) (by omega) (fun h9 => absurd h9 (by decide))

theorem m_readS {s0 : State} {l : Launch} {m : Nat} {σ : Sg} (hA : okA σ) : GC s0 l M_M_readS m [] σ (fun r σ' => r = some (.int (sgnU (fU 22 0 σ).1)) ∧ σ' = (fU 22 0 σ).2) := by
  refine g_in (by decide) rfl rfl (Nat.le_of_ble_eq_true rfl) (fun hB => ?_)
  refine g_aload_n d_M_readS_0 rfl rfl ?_
  refine g_calli (As := []) d_M_readS_1 lM_32 mv_M_readU rfl rfl rfl (Nat.le_of_ble_eq_true rfl) (by decide) (m_readU hA) ?_
  refine g_istore_n d_M_readS_4 rfl (Nat.le_of_ble_eq_true rfl) ?_
  refine g_iload_n d_M_readS_5 rfl rfl ?_
  refine g_iconst (v := nI 2) d_M_readS_6 (by decide) ?_
  refine g_irem d_M_readS_7 (by decide) ?_
  refine g_iconst (v := nI 1) d_M_readS_8 (by decide) ?_
  refine g_icmp_ne (tgt := 20) d_M_readS_9 (by decide) (fun c_9 => ?_) (fun c_9 => ?_)
  · skip
    refine g_iload_n d_M_readS_20 rfl rfl ?_
    refine g_iconst (v := nI 2) d_M_readS_21 (by decide) ?_
    refine g_idiv d_M_readS_22 (by decide) ?_
    refine g_ineg d_M_readS_23 ?_
    refine g_iret d_M_readS_24 rfl rfl ?_
    refine ⟨?_, rfl⟩
    unfold sgnU
    first | rw [if_neg c_9] | rw [if_pos c_9]
  · skip
    refine g_iload_n d_M_readS_12 rfl rfl ?_
    refine g_iconst (v := nI 1) d_M_readS_13 (by decide) ?_
    refine g_iadd d_M_readS_14 ?_
    refine g_iconst (v := nI 2) d_M_readS_15 (by decide) ?_
    refine g_idiv d_M_readS_16 (by decide) ?_
    refine g_goto (tgt := 24) d_M_readS_17 (by decide) ?_
    refine g_iret d_M_readS_24 rfl rfl ?_
    refine ⟨?_, rfl⟩
    unfold sgnU
    first | rw [if_neg c_9] | rw [if_pos c_9]

theorem m_align_l {s0 : State} {l : Launch} {hB : Mem} {m : Nat} : ∀ (f : Nat) (y : Option Value) (σ : Sg) (p : Nat), okA σ → σ 4 0 = nI p → p ≤ 32000 → (¬ 0 ≤ σ 6 0 → p % 8 ≠ 0 → 8 - p % 8 ≤ f) → GQ s0 l M_M_align hB m 0 [some (.ref m), y] [] σ (fun r σ' => r = none ∧ σ' = fAl f σ) := by
  intro f
  induction f with
  | zero =>
    intro y σ p hA hp hp2 hf
    unfold fAl
    refine g_aload_n d_M_align_0 rfl rfl ?_
    refine g_get d_M_align_1 fM_7 rfl ?_
    refine g_if_ge (tgt := 39) d_M_align_4 (by decide) (fun c_4 => ?_) (fun c_4 => ?_)
    · skip
      refine g_vret d_M_align_39 rfl ?_
      exact ⟨rfl, rfl⟩
    · skip
      refine g_aload_n d_M_align_7 rfl rfl ?_
      refine g_get d_M_align_8 fM_10 rfl ?_
      refine g_bipush (v := nI 8) d_M_align_11 (by decide) ?_
      refine g_irem d_M_align_13 (by decide) ?_
      refine g_if_eq (tgt := 39) d_M_align_14 (by decide) (fun c_14 => ?_) (fun c_14 => ?_)
      · skip
        refine g_vret d_M_align_39 rfl ?_
        exact ⟨rfl, rfl⟩
      · exfalso
        rw [hp, pk_rem (by omega) (by decide) (by decide)] at c_14
        have h9 := hf c_4 (fun h8 => c_14 (by rw [h8]; rfl))
        omega
  | succ f ih =>
    intro y σ p hA hp hp2 hf
    unfold fAl
    refine g_aload_n d_M_align_0 rfl rfl ?_
    refine g_get d_M_align_1 fM_7 rfl ?_
    refine g_if_ge (tgt := 39) d_M_align_4 (by decide) (fun c_4 => ?_) (fun c_4 => ?_)
    · skip
      refine g_vret d_M_align_39 rfl ?_
      first
        | (rw [if_pos c_4]; exact ⟨rfl, rfl⟩)
        | (rw [if_pos c_14]; exact ⟨rfl, rfl⟩)
    · skip
      rw [if_neg c_4]
      refine g_aload_n d_M_align_7 rfl rfl ?_
      refine g_get d_M_align_8 fM_10 rfl ?_
      refine g_bipush (v := nI 8) d_M_align_11 (by decide) ?_
      refine g_irem d_M_align_13 (by decide) ?_
      refine g_if_eq (tgt := 39) d_M_align_14 (by decide) (fun c_14 => ?_) (fun c_14 => ?_)
      · skip
        refine g_vret d_M_align_39 rfl ?_
        first
          | (rw [if_pos c_4]; exact ⟨rfl, rfl⟩)
          | (rw [if_pos c_14]; exact ⟨rfl, rfl⟩)
      · skip
        rw [if_neg c_14]
        refine g_aload_n d_M_align_17 rfl rfl ?_
        refine g_calli (As := []) d_M_align_18 lM_24 mv_M_bit rfl rfl rfl (Nat.le_of_ble_eq_true rfl) (by decide) (m_bit hA) ?_
        refine g_iconst (v := nI 1) d_M_align_21 (by decide) ?_
        refine g_icmp_ne (tgt := 0) d_M_align_22 (by decide) (fun c_22 => ?_) (fun c_22 => ?_)
        · skip
          obtain ⟨p1, e, a1, a2, a3, a4⟩ := id hA
          have hpp : p1 = p := (nI_eq (by omega) (by omega)).mp (a1.symm.trans hp)
          subst hpp
          have hm : p1 % 8 ≠ 0 := fun h8 => c_14 (by rw [a1, pk_rem (by omega) (by decide) (by decide), h8]; rfl)
          have h9 := hf c_4 hm
          by_cases hw2 : 0 ≤ (fBit σ).2 6 0
          · obtain ⟨p2, e2, b1, b2, b3, b4⟩ := hA.bit
            first
              | (rw [if_neg c_22]; exact ih _ _ p2 hA.bit b1 (by omega) (fun h7 => absurd hw2 h7))
              | (rw [if_pos c_22]; exact ih _ _ p2 hA.bit.fW (by unfold fW; rw [if_pos hw2]; exact b1) (by omega) (fun h7 => absurd (by unfold fW; rw [if_pos hw2]; exact hw2) h7))
          · obtain ⟨p2, e2, b1, b2, b3, b4, b5⟩ := bit_at hA c_4 hw2
            have hpp : p2 = p1 := (nI_eq (by omega) (by omega)).mp (b1.symm.trans a1)
            subst hpp
            have b6 : (fBit σ).2 4 0 = nI (p2 + 1) := by rw [b5]; exact su_at σ 4 0 _
            first
              | (rw [if_neg c_22]; exact ih _ _ (p2 + 1) hA.bit b6 (by omega) (fun _ _ => by omega))
              | (rw [if_pos c_22]; exact ih _ _ (p2 + 1) hA.bit.fW (by unfold fW; rw [if_neg hw2]; exact b6) (by omega) (fun h7 => absurd (wrong_in hA c_4 hw2) h7))
        · skip
          refine g_aload_n d_M_align_25 rfl rfl ?_
          refine g_aload_n d_M_align_26 rfl rfl ?_
          refine g_get d_M_align_27 fM_10 rfl ?_
          refine g_iconst (v := nI 1) d_M_align_30 (by decide) ?_
          refine g_isub d_M_align_31 ?_
          refine g_calli (As := [_]) d_M_align_32 lM_16 mv_M_isWrong rfl rfl rfl (Nat.le_of_ble_eq_true rfl) (by decide) (m_isWrong) ?_
          refine g_istore_n d_M_align_35 rfl (Nat.le_of_ble_eq_true rfl) ?_
          refine g_goto (tgt := 0) d_M_align_36 (by decide) ?_
          obtain ⟨p1, e, a1, a2, a3, a4⟩ := id hA
          have hpp : p1 = p := (nI_eq (by omega) (by omega)).mp (a1.symm.trans hp)
          subst hpp
          have hm : p1 % 8 ≠ 0 := fun h8 => c_14 (by rw [a1, pk_rem (by omega) (by decide) (by decide), h8]; rfl)
          have h9 := hf c_4 hm
          by_cases hw2 : 0 ≤ (fBit σ).2 6 0
          · obtain ⟨p2, e2, b1, b2, b3, b4⟩ := hA.bit
            first
              | (rw [if_neg c_22]; exact ih _ _ p2 hA.bit b1 (by omega) (fun h7 => absurd hw2 h7))
              | (rw [if_pos c_22]; exact ih _ _ p2 hA.bit.fW (by unfold fW; rw [if_pos hw2]; exact b1) (by omega) (fun h7 => absurd (by unfold fW; rw [if_pos hw2]; exact hw2) h7))
          · obtain ⟨p2, e2, b1, b2, b3, b4, b5⟩ := bit_at hA c_4 hw2
            have hpp : p2 = p1 := (nI_eq (by omega) (by omega)).mp (b1.symm.trans a1)
            subst hpp
            have b6 : (fBit σ).2 4 0 = nI (p2 + 1) := by rw [b5]; exact su_at σ 4 0 _
            first
              | (rw [if_neg c_22]; exact ih _ _ (p2 + 1) hA.bit b6 (by omega) (fun _ _ => by omega))
              | (rw [if_pos c_22]; exact ih _ _ (p2 + 1) hA.bit.fW (by unfold fW; rw [if_neg hw2]; exact b6) (by omega) (fun h7 => absurd (wrong_in hA c_4 hw2) h7))
theorem m_align {s0 : State} {l : Launch} {m : Nat} {σ : Sg} (hA : okA σ) : GC s0 l M_M_align m [] σ (fun r σ' => r = none ∧ σ' = fAl 8 σ) := by
  refine g_in (by decide) rfl rfl (Nat.le_of_ble_eq_true rfl) (fun hB => ?_)
  obtain ⟨p, e, a1, a2, a3, a4⟩ := id hA
  exact m_align_l 8 none σ p hA a1 (by omega) (fun _ _ => by omega)

