theorem sq9_w {A B s : Nat} {mv cd : Int32} {σ : Sg} (w : 0 ≤ σ 6 0) : sq9 A B s mv cd σ = (nI 0, σ) := if_pos w
theorem sq8_w {A B s : Nat} {mv cd : Int32} {σ : Sg} (w : 0 ≤ σ 6 0) : sq8 A B s mv cd σ = (nI 0, σ) := by
  unfold sq8
  rw [bit_w w, if_neg (show ¬ (0 : Int32) = nI 1 by decide), sq9_w w]
  split <;> rfl
theorem sq7_w {A B s : Nat} {mv : Int32} {σ : Sg} (w : 0 ≤ σ 6 0) : sq7 A B s mv σ = (nI 0, σ) := by
  unfold sq7
  rw [bit_w w, if_neg (show ¬ (0 : Int32) = nI 1 by decide), sq8_w w, sq8_w w]
  split <;> rfl
theorem sq6_w {A B s : Nat} {σ : Sg} (w : 0 ≤ σ 6 0) : (sq6 A B s σ).1 = nI 0 ∧ (sq6 A B s σ).2 6 0 = σ 6 0 ∧ ∀ j, (j = 5 ∨ (20 ≤ j ∧ j < 28)) → (sq6 A B s σ).2 j 0 = σ j 0 := by
  unfold sq6
  by_cases h : σ 32 0 = 0
  · rw [if_pos h, bit_w w]
    have w1 : 0 ≤ su σ 30 0 (nI 1) 6 0 := by rw [su_k (by decide)]; exact w
    have eW : sqW σ = su (su σ 30 0 (b01 0)) 31 0 (b01 0) := by rw [sqW_e, bit_w w, bit_w w]
    have w2 : 0 ≤ sqW σ 6 0 := by rw [eW, su_k (by decide), su_k (by decide)]; exact w
    by_cases h2 : σ 34 0 = nI 2
    · rw [if_pos h2]
      show (sq7 A B s (b01 0) (su σ 30 0 (nI 1))).1 = _ ∧ (sq7 A B s (b01 0) (su σ 30 0 (nI 1))).2 6 0 = _ ∧ ∀ j, (j = 5 ∨ (20 ≤ j ∧ j < 28)) → (sq7 A B s (b01 0) (su σ 30 0 (nI 1))).2 j 0 = _
      rw [sq7_w w1]
      exact ⟨rfl, show su σ 30 0 (nI 1) 6 0 = σ 6 0 from su_k (by decide), fun j hj => show su σ 30 0 (nI 1) j 0 = _ from su_k (by omega)⟩
    · rw [if_neg h2, if_pos w2, sq7_w w2, eW]
      exact ⟨rfl, show su (su σ 30 0 (b01 0)) 31 0 (b01 0) 6 0 = σ 6 0 by rw [su_k (by decide), su_k (by decide)], fun j hj => show su (su σ 30 0 (b01 0)) 31 0 (b01 0) j 0 = _ by rw [su_k (by omega), su_k (by omega)]⟩
  · rw [if_neg h, sq7_w w]
    exact ⟨rfl, rfl, fun j hj => rfl⟩
theorem num2 (σ : Sg) : fNum 2 0 σ = (2 * (2 * 0 + (fBit σ).1) + (fBit (fBit σ).2).1, (fBit (fBit σ).2).2) := rfl
/-- both ways of a square of B -/
theorem ways_B {A B s : Nat} {σ : Sg} (hR : okR σ) (hw : σ 6 0 = -1) (hi : σ 32 0 = 0) (h3 : σ 34 0 = nI 3) :
    (0 ≤ (fNA 2 σ).2 6 0 → (sq6 A B s σ).1 = nI 0 ∧ (sq6 A B s σ).2 6 0 = (fNA 2 σ).2 6 0 ∧ ∀ j, (j = 5 ∨ (20 ≤ j ∧ j < 28)) → (sq6 A B s σ).2 j 0 = σ j 0) ∧
    ((fNA 2 σ).2 6 0 = -1 → ∃ f b, f < 2 ∧ b < 2 ∧ 2 * f + b ≠ 0 ∧ (fNA 2 σ).1 = nI (2 * f + b) ∧ (fNA 2 σ).2 = (fNum 2 0 σ).2 ∧ sq6 A B s σ = sq7 A B s (nI 0) (su (su (fNA 2 σ).2 30 0 (nI f)) 31 0 (nI b))) := by
  have e6 : sq6 A B s σ = if 0 ≤ sqW σ 6 0 then sq7 A B s (nI 0) (sqW σ) else if sqW σ 30 0 = 0 then (if sqW σ 31 0 = 0 then (nI 0, fW (sqW σ) (sqW σ 4 0 - nI 1)) else sq7 A B s (nI 0) (sqW σ)) else sq7 A B s (nI 0) (sqW σ) := by
    unfold sq6
    rw [if_pos hi, if_neg (by rw [h3]; decide)]
  have e2 : (fNum 2 0 σ).2 = (fBit (fBit σ).2).2 := rfl
  have eW := sqW_e σ
  have w6 : sqW σ 6 0 = (fNum 2 0 σ).2 6 0 := by rw [eW, su_k (by decide), su_k (by decide)]; rfl
  have w4 : sqW σ 4 0 = (fNum 2 0 σ).2 4 0 := by rw [eW, su_k (by decide), su_k (by decide)]; rfl
  have hT : ∀ j, (j = 5 ∨ (20 ≤ j ∧ j < 28)) → sqW σ j 0 = σ j 0 := fun j hj => by
    rw [eW, su_k (by omega), su_k (by omega)]
    exact ((tk_bit _).trans (tk.refl _) j (by omega) (by omega) 0).trans (tk_bit σ j (by omega) (by omega) 0)
  by_cases h1 : 0 ≤ (fNum 2 0 σ).2 6 0
  · have en : (fNA 2 σ).2 = (fNum 2 0 σ).2 := if_pos h1
    have w1 : 0 ≤ sqW σ 6 0 := by rw [w6]; exact h1
    refine ⟨fun _ => ?_, fun z => ?_⟩
    · rw [e6, if_pos w1, sq7_w w1, en]
      exact ⟨rfl, w6, hT⟩
    · rw [en] at z
      rw [z] at h1
      exact absurd h1 (by decide)
  · have w1 : ¬ 0 ≤ sqW σ 6 0 := by rw [w6]; exact h1
    obtain ⟨f, hf, ef⟩ : ∃ f, f < 2 ∧ (fBit σ).1 = nI f := by
      rcases bit_rng hR with h | h
      · exact ⟨0, by decide, h⟩
      · exact ⟨1, by decide, h⟩
    obtain ⟨b, hb, eb⟩ : ∃ b, b < 2 ∧ (fBit (fBit σ).2).1 = nI b := by
      rcases bit_rng hR.bit with h | h
      · exact ⟨0, by decide, h⟩
      · exact ⟨1, by decide, h⟩
    have bf : ∀ f, f < 2 → b01 (nI f) = nI f := by decide
    have ev : (fNum 2 0 σ).1 = nI (2 * f + b) := by
      rw [num2]
      show 2 * (2 * 0 + (fBit σ).1) + (fBit (fBit σ).2).1 = _
      rw [ef, eb]
      rcases (show f = 0 ∨ f = 1 by omega) with rfl | rfl <;> rcases (show b = 0 ∨ b = 1 by omega) with rfl | rfl <;> decide
    have s30 : sqW σ 30 0 = nI f := by rw [eW, su_k (by decide), su_at, ef, bf f hf]
    have s31 : sqW σ 31 0 = nI b := by rw [eW, su_at, eb, bf b hb]
    by_cases h0 : 2 * f + b = 0
    · have en : (fNA 2 σ).2 = fW (fNum 2 0 σ).2 ((fNum 2 0 σ).2 4 0 - nI 1) := by
        show (if 0 ≤ (fNum 2 0 σ).2 6 0 then (fNum 2 0 σ).2 else if (fNum 2 0 σ).1 = 0 then fW (fNum 2 0 σ).2 ((fNum 2 0 σ).2 4 0 - nI 1) else (fNum 2 0 σ).2) = _
        rw [if_neg h1, if_pos (by rw [ev, h0]; rfl)]
      have hf0 : f = 0 := by omega
      have hb0 : b = 0 := by omega
      have e7 : sq6 A B s σ = (nI 0, fW (sqW σ) (sqW σ 4 0 - nI 1)) := by
        rw [e6, if_neg w1, if_pos (by rw [s30, hf0]; rfl), if_pos (by rw [s31, hb0]; rfl)]
      have ew : fW (sqW σ) (sqW σ 4 0 - nI 1) 6 0 = (fNA 2 σ).2 6 0 := by
        rw [en]
        unfold fW
        rw [if_neg w1, if_neg h1, su_at, su_at, w4]
      refine ⟨fun _ => ?_, fun z => ?_⟩
      · rw [e7]
        exact ⟨rfl, ew, fun j hj => (tk_fW _ _ j (by omega) (by omega) 0).trans (hT j hj)⟩
      · rw [en] at z
        have h2 : (fBit σ).2 6 0 = -1 ∨ 0 ≤ (fBit σ).2 6 0 := by
          by_cases q : 0 ≤ (fBit σ).2 6 0
          · exact Or.inr q
          · exact Or.inl (bit_k hR hw q)
        rcases h2 with h2 | h2
        · have := wrong_in hR.bit.1 (by rw [h2]; decide) h1
          rw [← e2] at this
          rw [z] at this
          exact absurd this (by decide)
        · rw [e2, bit_w h2] at h1
          exact absurd h2 h1
    · have en : (fNA 2 σ).2 = (fNum 2 0 σ).2 := by
        show (if 0 ≤ (fNum 2 0 σ).2 6 0 then (fNum 2 0 σ).2 else if (fNum 2 0 σ).1 = 0 then fW (fNum 2 0 σ).2 ((fNum 2 0 σ).2 4 0 - nI 1) else (fNum 2 0 σ).2) = _
        rw [if_neg h1, if_neg (by rw [ev]; exact nI_ne0 (by omega) (by omega))]
      refine ⟨fun z => absurd (by rw [en] at z; exact z) h1, fun _ => ⟨f, b, hf, hb, h0, ev, en, ?_⟩⟩
      have e8 : sqW σ = su (su (fNA 2 σ).2 30 0 (nI f)) 31 0 (nI b) := by
        rw [eW, en, ef, eb, bf f hf, bf b hb]
        rfl
      have e7 : sq6 A B s σ = sq7 A B s (nI 0) (sqW σ) := by
        rw [e6, if_neg w1]
        by_cases q : sqW σ 30 0 = 0
        · rw [if_pos q, if_neg]
          rw [s30] at q
          have := (nI_eq (b := 0) (by omega) (by decide)).mp q
          rw [s31]
          exact nI_ne0 (by omega) (by omega)
        · rw [if_neg q]
      rw [e7, e8]
theorem fZv_0' {σ : Sg} {j : Nat} (h : j < 4) : fZv σ 4 28 j = nI 0 := by
  unfold fZv
  rw [sa_at, if_pos h]
theorem kp_zv (σ : Sg) : kp [28] σ (fZv σ 4) := kp.sa (by decide)
theorem kp_I (σ : Sg) (v : Int32) : kp [30, 31, 32] σ (sqI σ v) := ((kp.su (by decide)).trans (kp.su (by decide))).trans (kp.su (by decide))
