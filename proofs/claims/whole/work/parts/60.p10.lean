/-! ===== marks, the size, the stream ===== -/
theorem mk8 {τ : Sg} (hR : okR τ) (hw : τ 6 0 = -1) : (0 ≤ (fBit τ).2 6 0 → fIF (nI 256) (nI 439) 8 (nI 1) (nI 1) τ = (nI 0, (fBit τ).2)) ∧ ((fBit τ).2 6 0 = -1 → ((fBit τ).1 = 0 → fIF (nI 256) (nI 439) 8 (nI 1) (nI 1) τ = fIF (nI 256) (nI 439) 7 (nI 1) (nI 0) (fBit τ).2) ∧ (¬ (fBit τ).1 = 0 → fIF (nI 256) (nI 439) 8 (nI 1) (nI 1) τ = fIF (nI 256) (nI 439) 7 (nI 0) (nI 1) (fBit τ).2)) := by
  have hw' : ¬ 0 ≤ τ 6 0 := by rw [hw]; decide
  have e : fIF (nI 256) (nI 439) 8 (nI 1) (nI 1) τ = if 0 ≤ (fBit τ).2 6 0 then (nI 0, (fBit τ).2) else
      if nx1 (nI 256) 7 (nI 1) (fBit τ).1 = 0 then (if nx1 (nI 439) 7 (nI 1) (fBit τ).1 = 0 then fIF (nI 256) (nI 439) 7 (nx1 (nI 256) 7 (nI 1) (fBit τ).1) (nx1 (nI 439) 7 (nI 1) (fBit τ).1) (fW (fBit τ).2 ((fBit τ).2 4 0 - nI 1)) else fIF (nI 256) (nI 439) 7 (nx1 (nI 256) 7 (nI 1) (fBit τ).1) (nx1 (nI 439) 7 (nI 1) (fBit τ).1) (fBit τ).2) else fIF (nI 256) (nI 439) 7 (nx1 (nI 256) 7 (nI 1) (fBit τ).1) (nx1 (nI 439) 7 (nI 1) (fBit τ).1) (fBit τ).2 := by
    rw [fIF, if_neg hw']
  rw [e]
  refine ⟨fun z => if_pos z, fun z => ⟨fun h0 => ?_, fun h0 => ?_⟩⟩
  · rw [if_neg (by rw [z]; decide), h0, show nx1 (nI 256) 7 (nI 1) 0 = nI 1 by decide, show nx1 (nI 439) 7 (nI 1) 0 = nI 0 by decide, if_neg (show ¬ nI 1 = 0 by decide)]
  · have h1 : (fBit τ).1 = nI 1 := (bit_rng hR).resolve_left h0
    rw [if_neg (by rw [z]; decide), h1, show nx1 (nI 256) 7 (nI 1) (nI 1) = nI 0 by decide, show nx1 (nI 439) 7 (nI 1) (nI 1) = nI 1 by decide, if_pos (show nI 0 = 0 by decide), if_neg (show ¬ nI 1 = 0 by decide)]
theorem st_w {A B f n : Nat} {σ : Sg} (w : 0 ≤ σ 6 0) : fSt A B f n σ = σ := by
  cases f with
  | zero => rfl
  | succ f => unfold fSt; rw [if_pos w]
/-- the size of a stream -/
theorem num_4 {σ : Sg} (hR : okR σ) : ∃ a, (fNum 2 0 σ).1 = nI a ∧ a < 4 := by
  obtain ⟨b, h1, h2, h3⟩ := num_rng 2 0 hR
  exact ⟨b, h1, by omega⟩
theorem num_wm {σ : Sg} {n : Nat} (hR : okR σ) (hw : σ 6 0 = -1) : ∀ (n : Nat) (v : Int32) (τ : Sg), okR τ → τ 6 0 = -1 → (fNum n v τ).2 6 0 = -1 ∨ 0 ≤ (fNum n v τ).2 6 0
  | 0, _, _, _, h => Or.inl h
  | n + 1, v, τ, hR, hw => by
    unfold fNum
    by_cases h2 : 0 ≤ (fBit τ).2 6 0
    · right
      rw [num_w h2]
      exact h2
    · exact num_wm (n := n) hR hw n _ _ hR.bit (bit_k hR hw h2)
/-- how reading the size ends -/
def RZ (g : Gh) (κ σ : Sg) (o : Out) (g' : Gh) (κ' : Sg) : Prop :=
  (o = .inr ISE ∧ g' = gx g ∧ ∃ τ, fStr σ = τ ∧ 0 ≤ τ 6 0 ∧ kp [4, 6] σ τ ∧ kp [1] κ κ' ∧ κ' 1 3 = τ 6 0 ∧ κ' 1 1 = κ 1 1) ∨
  (∃ A B, okAB A B ∧ okD (stZ σ) A B ∧ fStr σ = fFin A B (fSt A B 1001 0 (fAl 8 (stZ σ))) ∧ kp [1, 3, 4] κ κ' ∧ (∀ j, j ≠ 2 → j ≠ 3 → κ' 3 j = κ 3 j) ∧ κ' 3 2 = nI A ∧ κ' 3 3 = nI B ∧ TA κ' (fAl 8 (stZ σ)) ∧ ((o = .inl none ∧ g' = g ∧ TRel κ' (fAl 8 (stZ σ))) ∨ (o = .inr ISE ∧ g' = gx g ∧ 0 ≤ fAl 8 (stZ σ) 6 0 ∧ κ' 1 3 = fAl 8 (stZ σ) 6 0 ∧ κ' 1 1 = κ 1 1)))
theorem stM_e {σ : Sg} (hR : okR σ) (hw : σ 6 0 = -1) : stM σ = fEx (nI 21074) 16 σ := if_ex 16 σ hR hw
theorem str_1 {σ : Sg} (w : 0 ≤ stM σ 6 0) : fStr σ = stM σ := if_pos w
theorem str_2 {σ : Sg} (h : ¬ 0 ≤ stM σ 6 0) (w : 0 ≤ stN σ 6 0) : fStr σ = stN σ := by
  unfold fStr
  rw [if_neg h, if_pos w]
theorem str_3 {σ : Sg} {a b : Nat} (h : ¬ 0 ≤ stM σ 6 0) (w : ¬ 0 ≤ stN σ 6 0) (ha : (fNum 2 0 (stM σ)).1 = nI a) (ha4 : a < 4) (hb : (fNum 2 0 (fNum 2 0 (stM σ)).2).1 = nI b) (hb4 : b < 4) : fStr σ = fFin (a + 1) (b + 1) (fSt (a + 1) (b + 1) 1001 0 (fAl 8 (stZ σ))) ∧ okD (stZ σ) (a + 1) (b + 1) ∧ stA σ = nI (a + 1) ∧ stB σ = nI (b + 1) := by
  have eA : stA σ = nI (a + 1) := by
    unfold stA
    rw [ha, nI_add, Nat.add_comm]
  have eB : stB σ = nI (b + 1) := by
    unfold stB
    rw [hb, nI_add, Nat.add_comm]
  refine ⟨?_, ⟨?_, ?_, by omega, by omega, by omega, by omega⟩, eA, eB⟩
  · unfold fStr
    rw [if_neg h, if_neg w, eA, eB, nI_clamp (by omega), nI_clamp (by omega)]
  · unfold stZ
    rw [su_k (by decide), su_k (by decide), su_k (by decide), su_at]
    exact eA
  · unfold stZ
    rw [su_k (by decide), su_k (by decide), su_at]
    exact eB
