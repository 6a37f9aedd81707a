/-! ===== reading goes on ===== -/
def av (σ σ' : Sg) : Prop := okR σ → okR σ' ∧ (σ 4 0).toInt ≤ (σ' 4 0).toInt
theorem av.refl (σ : Sg) : av σ σ := fun r => ⟨r, Int.le_refl _⟩
theorem av.trans {a b c : Sg} (h : av a b) (h' : av b c) : av a c := fun r => ⟨(h' (h r).1).1, Int.le_trans (h r).2 (h' (h r).1).2⟩
theorem av_eq {σ σ' : Sg} (e : eqOn [3, 4, 5] σ σ') : av σ σ' := fun r => ⟨r.eq e, by rw [e 4 (by decide)]; exact Int.le_refl _⟩
theorem av_su {σ : Sg} {k j : Nat} {v : Int32} (h3 : k ≠ 3) (h4 : k ≠ 4) (h5 : k ≠ 5) : av σ (su σ k j v) := av_eq (eqOn.su (by simp [h3, h4, h5]))
theorem av_sa {σ : Sg} {k : Nat} {f : Nat → Int32} (h3 : k ≠ 3) (h4 : k ≠ 4) (h5 : k ≠ 5) : av σ (sa σ k f) := av_eq (eqOn.sa (by simp [h3, h4, h5]))
theorem av_fW (σ : Sg) (x : Int32) : av σ (fW σ x) := fun r => ⟨r.fW, by
  unfold fW
  split
  · exact Int.le_refl _
  · exact Int.le_refl _⟩
theorem av_bit (σ : Sg) : av σ (fBit σ).2 := fun r => ⟨r.bit, by
  unfold fBit
  split
  · exact Int.le_refl _
  · split
    · exact (av_fW σ _ r).2
    · rename_i h1 h2
      obtain ⟨p, e, a1, a2, a3, a4⟩ := r.1
      have e1 : su σ 4 0 (σ 4 0 + 1) 4 0 = nI (p + 1) := by rw [su_at, a1, nI_1]
      show (σ 4 0).toInt ≤ (su σ 4 0 (σ 4 0 + 1) 4 0).toInt
      rw [e1, a1, nI_toInt (by omega), nI_toInt (by omega)]
      omega⟩
theorem av_num : ∀ (n : Nat) (v : Int32) (σ : Sg), av σ (fNum n v σ).2
  | 0, _, σ => av.refl σ
  | n + 1, v, σ => (av_bit σ).trans (av_num n _ _)

theorem av_na (n : Nat) (σ : Sg) : av σ (fNA n σ).2 := by
  unfold fNA
  split
  · exact av_num n 0 σ
  · split
    · exact (av_num n 0 σ).trans (av_fW _ _)
    · exact av_num n 0 σ
theorem av_ut (z : Nat) (σ : Sg) : av σ (fUt z σ).2 := by
  unfold fUt
  split
  · exact av.refl σ
  · exact av_num z 0 σ
theorem av_u : ∀ (f z : Nat) (σ : Sg), av σ (fU f z σ).2
  | 0, _, σ => av.refl σ
  | f + 1, z, σ => by
    unfold fU
    split
    · exact av_ut z σ
    · split
      · split
        · exact av_bit σ
        · split
          · exact ((av_bit σ).trans (av_fW _ _)).trans (av_u f _ _)
          · exact (av_bit σ).trans (av_u f _ _)
      · exact (av_bit σ).trans (av_ut z _)
theorem av_al : ∀ (f : Nat) (σ : Sg), av σ (fAl f σ)
  | 0, σ => av.refl σ
  | f + 1, σ => by
    unfold fAl
    split
    · exact av.refl σ
    · split
      · exact av.refl σ
      · refine av.trans ?_ (av_al f _)
        split
        · exact (av_bit σ).trans (av_fW _ _)
        · exact av_bit σ
theorem av_if {one two : Int32} : ∀ (n : Nat) (a b : Int32) (σ : Sg), av σ (fIF one two n a b σ).2
  | 0, _, _, σ => av.refl σ
  | n + 1, a, b, σ => by
    unfold fIF
    split
    · exact av.refl σ
    · split
      · exact av_bit σ
      · split
        · split
          · exact ((av_bit σ).trans (av_fW _ _)).trans (av_if n _ _ _)
          · exact (av_bit σ).trans (av_if n _ _ _)
        · exact (av_bit σ).trans (av_if n _ _ _)
theorem av_bk : ∀ (f w : Nat) (σ : Sg), av σ (fBk f w σ).2
  | 0, _, σ => av.refl σ
  | f + 1, w, σ => by
    have h1 : av σ (fU 22 0 σ).2 := av_u 22 0 σ
    have h2 : av (fU 22 0 σ).2 (fU 22 0 (fU 22 0 σ).2).2 := av_u 22 0 _
    have h3 : ∀ (τ : Sg) (x : Int32), av τ (fW τ x) := fun τ x => av_fW τ x
    unfold fBk
    split
    · exact h1
    · split
      · exact h1
      · split
        · split
          · exact h1.trans h2
          · split
            · exact (h1.trans h2).trans (h3 _ _)
            · split
              · exact (h1.trans h2).trans (h3 _ _)
              · split
                · exact (((h1.trans h2).trans (av_su (by decide) (by decide) (by decide))).trans (av_su (by decide) (by decide) (by decide))).trans (av_bk f _ _)
                · exact (h1.trans h2).trans (h3 _ _)
        · exact h1.trans (h3 _ _)
theorem av_blk (σ : Sg) (p : Nat) : av σ (fBlk σ p).2 := by
  have h0 : av σ (fClr σ 64) := av_sa (by decide) (by decide) (by decide)
  have h1 : av (fClr σ 64) (fU 22 0 (fClr σ 64)).2 := av_u 22 0 _
  have h3 : ∀ (τ : Sg) (x : Int32), av τ (fW τ x) := fun τ x => av_fW τ x
  have h4 : ∀ (w : Nat) (τ : Sg), av τ (fBk 65 w τ).2 := fun w τ => (av_bk 65 w τ)
  unfold fBlk
  split
  · exact h0.trans (h4 _ _)
  · split
    · exact h0.trans h1
    · split
      · exact (h0.trans h1).trans (h3 _ _)
      · split
        · exact (((h0.trans h1).trans (av_su (by decide) (by decide) (by decide))).trans (av_su (by decide) (by decide) (by decide))).trans (h4 _ _)
        · exact (h0.trans h1).trans (h3 _ _)
theorem av_sm (σ : Sg) (A B p x0 y0 : Nat) : av σ (fSm σ A B p x0 y0) := av_eq ((kp_sm σ A B p x0 y0).eqOn (by decide))
theorem av_bs (σ : Sg) (A B s b : Nat) : av σ (fBs σ A B s b) := (((av_blk σ (bP b))).trans (av_su (by decide) (by decide) (by decide))).trans ((av_sm _ A B _ _ _))
theorem av_ab {A B s : Nat} {wh : Int32} : ∀ (n b : Nat) (σ : Sg), av σ (fAB A B s wh n b σ).2
  | 0, _, σ => av.refl σ
  | n + 1, b, σ => by
    unfold fAB
    split
    · exact av_ab n _ σ
    · split
      · exact (av_blk σ _)
      · exact (av_bs σ A B s b).trans (av_ab n _ _)
theorem av_vc {r : Int32} : ∀ (n k : Nat) (σ : Sg), av σ (fVc r n k σ).2
  | 0, _, σ => av.refl σ
  | n + 1, k, σ => by
    have h1 : av σ (fU 22 0 σ).2 := av_u 22 0 σ
    have h3 : ∀ (τ : Sg) (x : Int32), av τ (fW τ x) := fun τ x => av_fW τ x
    unfold fVc
    split
    · exact h1
    · split
      · exact h1.trans (h3 _ _)
      · split
        · exact ((h1.trans (av_su (by decide) (by decide) (by decide))).trans (av_su (by decide) (by decide) (by decide))).trans (av_vc n _ _)
        · exact h1.trans (h3 _ _)
