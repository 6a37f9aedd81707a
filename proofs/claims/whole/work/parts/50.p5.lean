/-! ===== a square's reading ===== -/
def EQ (S : List Nat) (g : Gh) (κ : Sg) (r : Int32 × Sg) (R : Sg → Prop) (o : Out) (g' : Gh) (κ' : Sg) : Prop :=
  kp S κ κ' ∧ ((r.2 6 0 = -1 ∧ ¬ r.1 = 0 ∧ o = .inl none ∧ g' = g ∧ R κ') ∨ (0 ≤ r.2 6 0 ∧ r.1 = 0 ∧ o = .inr ISE ∧ g' = gx g ∧ κ' 1 3 = r.2 6 0 ∧ TB κ' r.2))
theorem EQ.up {S : List Nat} {g : Gh} {κ κ1 : Sg} {r : Int32 × Sg} {R : Sg → Prop} {o : Out} {g' : Gh} {κ' : Sg} (h : EQ S g κ1 r R o g' κ') (e : kp S κ κ1) : EQ S g κ r R o g' κ' := ⟨e.trans h.1, h.2⟩
theorem EQ.mono {S T : List Nat} {g : Gh} {κ : Sg} {r : Int32 × Sg} {R R' : Sg → Prop} {o : Out} {g' : Gh} {κ' : Sg} (h : EQ S g κ r R o g' κ') (hs : ∀ k, k ∈ S → k ∈ T) (hr : r.2 6 0 = -1 → kp S κ κ' → R κ' → R' κ') : EQ T g κ r R' o g' κ' := by
  obtain ⟨h1, h2⟩ := h
  refine ⟨h1.mono hs, ?_⟩
  rcases h2 with h2 | h2
  · exact Or.inl ⟨h2.1, h2.2.1, h2.2.2.1, h2.2.2.2.1, hr h2.1 h1 h2.2.2.2.2⟩
  · exact Or.inr h2
theorem EQ.thr {S : List Nat} {g : Gh} {κ σ τ : Sg} {r : Int32 × Sg} {R : Sg → Prop} {x y : Int32} (h1 : 1 ∈ S) (w : 0 ≤ τ 6 0) (e : r.1 = 0) (e6 : r.2 6 0 = τ 6 0) (hy : y = τ 6 0) (ha : TB κ σ) (ht : ∀ k, (k = 5 ∨ (20 ≤ k ∧ k < 28)) → r.2 k 0 = σ k 0) : EQ S g κ r R (.inr ISE) (gx g) (su (su κ 1 2 x) 1 3 y) := by
  refine ⟨(kp.su h1).trans (kp.su h1), Or.inr ⟨by rw [e6]; exact w, e, rfl, rfl, ?_, fun j hj => ?_, ?_⟩⟩
  · rw [e6]
    exact (su_at _ _ _ _).trans hy
  · rw [su_k (by decide), su_k (by decide), ha.1 j hj]
    exact (ht (20 + j) (by omega)).symm
  · rw [su_j (by decide), su_j (by decide), ha.2]
    exact (ht 5 (by omega)).symm
theorem bk1 : ∀ (f w : Nat) (σ : Sg), (fBk f w σ).1 = nI 0 ∨ ¬ 0 ≤ (fBk f w σ).2 6 0
  | 0, _, _ => Or.inl rfl
  | f + 1, w, σ => by
    unfold fBk
    by_cases h1 : 0 ≤ (fU 22 0 σ).2 6 0
    · rw [if_pos h1]; exact Or.inl rfl
    · rw [if_neg h1]
      split
      · exact Or.inr h1
      · split
        · split
          · exact Or.inl rfl
          · split
            · exact Or.inl rfl
            · split
              · exact Or.inl rfl
              · split
                · exact bk1 f _ _
                · exact Or.inl rfl
        · exact Or.inl rfl
theorem blk1 {σ : Sg} {p : Nat} (h : 0 ≤ (fBlk σ p).2 6 0) : (fBlk σ p).1 = 0 := by
  unfold fBlk at h ⊢
  by_cases h1 : σ 32 0 = 0
  · rw [if_pos h1] at h ⊢
    exact (bk1 _ _ _).resolve_right (fun z => z h)
  · rw [if_neg h1] at h ⊢
    by_cases h2 : 0 ≤ (fU 22 0 (fClr σ 64)).2 6 0
    · rw [if_pos h2]; rfl
    · rw [if_neg h2] at h ⊢
      by_cases h3 : σ 33 p + sgnU (fU 22 0 (fClr σ 64)).1 < 0
      · rw [if_pos h3]; rfl
      · rw [if_neg h3] at h ⊢
        by_cases h4 : σ 33 p + sgnU (fU 22 0 (fClr σ 64)).1 ≤ nI 255
        · rw [if_pos h4] at h ⊢
          exact (bk1 _ _ _).resolve_right (fun z => z h)
        · rw [if_neg h4]; rfl
theorem vc1 {r : Int32} : ∀ (n k : Nat) (σ : Sg), ¬ 0 ≤ σ 6 0 → (fVc r n k σ).1 = nI 0 ∨ ¬ 0 ≤ (fVc r n k σ).2 6 0
  | 0, _, _, h => Or.inr h
  | n + 1, k, σ, h => by
    unfold fVc
    by_cases h1 : 0 ≤ (fU 22 0 σ).2 6 0
    · rw [if_pos h1]; exact Or.inl rfl
    · rw [if_neg h1]
      split
      · exact Or.inl rfl
      · split
        · refine vc1 n _ _ ?_
          rw [su_k (by decide), su_k (by decide)]
          exact h1
        · exact Or.inl rfl
theorem vc29 {r : Int32} : ∀ (n k : Nat) (σ : Sg) (j : Nat), ¬ (k ≤ j ∧ j < k + n) → (fVc r n k σ).2 29 j = σ 29 j ∧ (fVc r n k σ).2 28 j = σ 28 j
  | 0, _, _, _, _ => ⟨rfl, rfl⟩
  | n + 1, k, σ, j, hj => by
    have e := tk_u 22 0 σ
    have hw : ∀ x, (fW (fU 22 0 σ).2 x) 29 j = σ 29 j ∧ (fW (fU 22 0 σ).2 x) 28 j = σ 28 j := fun x => ⟨(tk_fW _ _ 29 (by decide) (by decide) j).trans (e 29 (by decide) (by decide) j), (tk_fW _ _ 28 (by decide) (by decide) j).trans (e 28 (by decide) (by decide) j)⟩
    unfold fVc
    split
    · exact ⟨e 29 (by decide) (by decide) j, e 28 (by decide) (by decide) j⟩
    · split
      · exact hw _
      · split
        · obtain ⟨a, b⟩ := vc29 n (k + 1) (su (su (fU 22 0 σ).2 29 k (vwr r (σ 29 k + sgnU (fU 22 0 σ).1))) 28 k (vwr r (σ 29 k + sgnU (fU 22 0 σ).1))) j (by omega)
          rw [a, b, su_k (by decide), su_j (by omega), su_j (by omega), su_k (by decide)]
          exact ⟨e 29 (by decide) (by decide) j, e 28 (by decide) (by decide) j⟩
        · exact hw _
theorem fW_su {σ : Sg} {k j : Nat} {v p : Int32} (h6 : k ≠ 6) : fW (su σ k j v) p = su (fW σ p) k j v := by
  unfold fW
  rw [su_k (fun z => h6 z.symm)]
  split
  · rfl
  · funext a b
    unfold su
    by_cases h1 : a = 6 ∧ b = 0
    · rw [if_pos h1, if_neg (fun z => h6 (z.1.symm.trans h1.1)), if_pos h1]
    · rw [if_neg h1]
      by_cases h2 : a = k ∧ b = j
      · rw [if_pos h2, if_pos h2]
      · rw [if_neg h2, if_neg h2, if_neg h1]
theorem bit_su {σ : Sg} {k j : Nat} {v : Int32} (h3 : k ≠ 3) (h4 : k ≠ 4) (h5 : k ≠ 5) (h6 : k ≠ 6) : fBit (su σ k j v) = ((fBit σ).1, su (fBit σ).2 k j v) := by
  unfold fBit
  rw [su_k (fun z => h6 z.symm), su_k (fun z => h4 z.symm), su_k (fun z => h5 z.symm), su_k (fun z => h3 z.symm)]
  split
  · rfl
  · split
    · rw [fW_su h6]
    · refine Prod.ext rfl ?_
      funext a b
      show su (su σ k j v) 4 0 _ a b = su (su σ 4 0 _) k j v a b
      unfold su
      by_cases h1 : a = 4 ∧ b = 0
      · rw [if_pos h1, if_neg (fun z => h4 (z.1.symm.trans h1.1)), if_pos h1]
      · rw [if_neg h1]
        by_cases h2 : a = k ∧ b = j
        · rw [if_pos h2, if_pos h2]
        · rw [if_neg h2, if_neg h2, if_neg h1]
theorem and2 : ∀ W, W < 4 → (nI W &&& nI 2 = 0 ↔ W < 2) := by decide +kernel
theorem sqW_e (σ : Sg) : sqW σ = su (su (fBit (fBit σ).2).2 30 0 (b01 (fBit σ).1)) 31 0 (b01 (fBit (fBit σ).2).1) := by
  unfold sqW
  rw [bit_su (by decide) (by decide) (by decide) (by decide)]
