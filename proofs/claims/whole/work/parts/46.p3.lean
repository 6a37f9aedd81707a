/-! ===== a block: how its bits are read ===== -/
theorem fW_n {σ : Sg} {p : Int32} (w : σ 6 0 = -1) : fW σ p = su σ 6 0 p := by
  unfold fW
  rw [if_neg (by rw [w]; decide)]
theorem u_wm {σ : Sg} (hR : okR σ) (hw : σ 6 0 = -1) : ∀ (f z : Nat) (τ : Sg), okR τ → τ 6 0 = -1 → z ≤ 20 → z + f = 22 → (fU f z τ).2 6 0 = -1 ∨ 0 ≤ (fU f z τ).2 6 0
  | 0, z, τ, _, h, h2, h3 => by omega
  | f + 1, z, τ, hR, hw, hz, hf => by
    have hw' : ¬ 0 ≤ τ 6 0 := by rw [hw]; decide
    have hut : ∀ (τ : Sg), okR τ → τ 6 0 = -1 → (fUt z τ).2 6 0 = -1 ∨ 0 ≤ (fUt z τ).2 6 0 := fun τ hR hw => by
      unfold fUt
      rw [if_neg (by rw [hw]; decide)]
      have : ∀ (n : Nat) (v : Int32) (τ : Sg), okR τ → τ 6 0 = -1 → (fNum n v τ).2 6 0 = -1 ∨ 0 ≤ (fNum n v τ).2 6 0 := fun n => by
        induction n with
        | zero => intro v τ hR hw; exact Or.inl hw
        | succ n ih =>
          intro v τ hR hw
          unfold fNum
          by_cases h2 : 0 ≤ (fBit τ).2 6 0
          · right
            rw [num_w h2]
            exact h2
          · exact ih _ _ hR.bit (bit_k hR hw h2)
      exact this z 0 τ hR hw
    unfold fU
    rw [if_neg hw']
    by_cases h2 : 0 ≤ (fBit τ).2 6 0
    · have hb : (fBit τ).1 = 0 := by
        unfold fBit at h2 ⊢
        rw [if_neg hw'] at h2 ⊢
        by_cases h9 : τ 4 0 = τ 5 0
        · rw [if_pos h9]
        · rw [if_neg h9] at h2
          exact absurd ((show su τ 4 0 (τ 4 0 + 1) 6 0 = τ 6 0 from su_k (by decide)) ▸ (show 0 ≤ su τ 4 0 (τ 4 0 + 1) 6 0 from h2)) hw'
      rw [if_pos hb, if_pos h2]
      exact Or.inr h2
    · have h3 := bit_k hR hw h2
      by_cases hb : (fBit τ).1 = 0
      · rw [if_pos hb, if_neg h2]
        by_cases hz2 : z + 1 = 21
        · rw [if_pos hz2]
          have h5 := wrong_in hR.1 hw' h2
          right
          have hf1 : f = 1 := by omega
          subst hf1
          unfold fU fUt
          rw [if_pos h5, if_pos h5]
          exact h5
        · rw [if_neg hz2]
          exact u_wm hR hw f (z + 1) _ hR.bit h3 (by omega) (by omega)
      · rw [if_neg hb]
        exact hut _ hR.bit h3
theorem u_w {σ : Sg} (hR : okR σ) (hw : σ 6 0 = -1) (h : ¬ 0 ≤ (fU 22 0 σ).2 6 0) : (fU 22 0 σ).2 6 0 = -1 := by
  rcases u_wm hR hw 22 0 σ hR hw (by decide) rfl with h1 | h1
  · exact h1
  · exact absurd h1 h
section BK
variable {τ : Sg} {w f : Nat}
theorem bk_fail (hR : okR τ) (hw : τ 6 0 = -1) (hw64 : w ≤ 64) (h : 0 ≤ (uE (nI (64 - w)) (τ 4 0) (fU 22 0 τ)).2 6 0) : fBk (f + 1) w τ = (nI 0, (uE (nI (64 - w)) (τ 4 0) (fU 22 0 τ)).2) := by
  unfold fBk
  by_cases h1 : 0 ≤ (fU 22 0 τ).2 6 0
  · rw [if_pos h1, uE_w h1]
  · rw [if_neg h1]
    have h1' := u_w hR hw h1
    obtain ⟨b, e1, e2⟩ := u_max 22 0 τ hR (by rw [hw]; decide) rfl (by decide) h1
    by_cases h2 : (fU 22 0 τ).1 ≤ nI (64 - w)
    · rw [uE_ok h1 h2] at h
      exact absurd h h1
    · have hb : 64 - w < b := Nat.lt_of_not_le (fun z => h2 (by rw [e1]; exact nI_le z (by omega)))
      rw [uE_bad h1' h2, fW_n h1']
      rw [if_neg (show ¬ (fU 22 0 τ).1 = 0 by rw [e1]; exact nI_ne0 (by omega) (by omega))]
      have e3 : nI w + ((fU 22 0 τ).1 - nI 1) = nI (w + (b - 1)) := by rw [e1, pk_sub (by omega), nI_add]
      rw [e3, if_neg (nI_ge (by omega) (by omega))]
theorem bk_ok (hR : okR τ) (hw : τ 6 0 = -1) (hw64 : w ≤ 64) (h : (uE (nI (64 - w)) (τ 4 0) (fU 22 0 τ)).2 6 0 = -1) : (uE (nI (64 - w)) (τ 4 0) (fU 22 0 τ)).2 = (fU 22 0 τ).2 ∧ (fU 22 0 τ).2 6 0 = -1 ∧ ∃ n, (fU 22 0 τ).1 = nI n ∧ n ≤ 64 - w := by
  have h0 : ¬ 0 ≤ (uE (nI (64 - w)) (τ 4 0) (fU 22 0 τ)).2 6 0 := by rw [h]; decide
  by_cases h1 : 0 ≤ (fU 22 0 τ).2 6 0
  · rw [uE_w h1] at h0
    exact absurd h1 h0
  · have h1' := u_w hR hw h1
    obtain ⟨b, e1, e2⟩ := u_max 22 0 τ hR (by rw [hw]; decide) rfl (by decide) h1
    by_cases h2 : (fU 22 0 τ).1 ≤ nI (64 - w)
    · refine ⟨uE_ok h1 h2, h1', b, e1, ?_⟩
      rw [e1] at h2
      exact (nI_leI (by omega) (by omega)).mp h2
    · rw [uE_bad h1' h2, su_at] at h0
      exact absurd (at_0 hR) h0
theorem bk_0 (h1 : (fU 22 0 τ).2 6 0 = -1) (h : (fU 22 0 τ).1 = nI 0) : fBk (f + 1) w τ = (nI 1, (fU 22 0 τ).2) := by
  unfold fBk
  rw [if_neg (by rw [h1]; decide), if_pos (show (fU 22 0 τ).1 = 0 from h)]
theorem bk_n {n : Nat} (h1 : (fU 22 0 τ).2 6 0 = -1) (h : (fU 22 0 τ).1 = nI n) (hn : 1 ≤ n) (hn2 : n ≤ 64 - w) (hw64 : w ≤ 64) : fBk (f + 1) w τ = (if 0 ≤ (fU 22 0 (fU 22 0 τ).2).2 6 0 then (nI 0, (fU 22 0 (fU 22 0 τ).2).2) else
       if sgnU (fU 22 0 (fU 22 0 τ).2).1 = 0 then (nI 0, fW (fU 22 0 (fU 22 0 τ).2).2 ((fU 22 0 τ).2 4 0)) else
       if nI 2047 < sgnU (fU 22 0 (fU 22 0 τ).2).1 then (nI 0, fW (fU 22 0 (fU 22 0 τ).2).2 ((fU 22 0 τ).2 4 0)) else
       if -2047 ≤ sgnU (fU 22 0 (fU 22 0 τ).2).1 then
         fBk f (w + n) (su (su (fU 22 0 (fU 22 0 τ).2).2 38 (zzT (w + n - 1)) (fFac (fU 22 0 (fU 22 0 τ).2).2 (zzT (w + n - 1)) (sgnU (fU 22 0 (fU 22 0 τ).2).1))) 27 0 ((fU 22 0 (fU 22 0 τ).2).2 27 0 + nI 1))
       else (nI 0, fW (fU 22 0 (fU 22 0 τ).2).2 ((fU 22 0 τ).2 4 0))) := by
  have e3 : nI w + ((fU 22 0 τ).1 - nI 1) = nI (w + n - 1) := by rw [h, pk_sub hn, nI_add, show w + (n - 1) = w + n - 1 by omega]
  rw [fBk, if_neg (by rw [h1]; decide), if_neg (show ¬ (fU 22 0 τ).1 = 0 by rw [h]; exact nI_ne0 (by omega) (by omega)), e3, if_pos (nI_le (by omega) (by decide)), nI_clamp (by omega), show w + n - 1 + 1 = w + n by omega]
end BK
theorem ss_wm {lo hi : Int32} {σ : Sg} (hR : okR σ) (hw : σ 6 0 = -1) : fSs lo hi σ 6 0 = -1 → fSs lo hi σ = (fU 22 0 σ).2 ∧ (fU 22 0 σ).2 6 0 = -1 ∧ lo ≤ sgnU (fU 22 0 σ).1 ∧ sgnU (fU 22 0 σ).1 ≤ hi := by
  intro h
  have h0 : ¬ 0 ≤ fSs lo hi σ 6 0 := by rw [h]; decide
  unfold fSs at h0 ⊢
  by_cases h1 : 0 ≤ (fU 22 0 σ).2 6 0
  · rw [if_pos h1] at h0
    exact absurd h1 h0
  · have h1' := u_w hR hw h1
    rw [if_neg h1] at h0 ⊢
    have hx : ¬ ¬ 0 ≤ fW (fU 22 0 σ).2 (σ 4 0) 6 0 := by
      rw [fW_n h1', su_at]
      exact fun z => z (at_0 hR)
    by_cases h2 : sgnU (fU 22 0 σ).1 < lo
    · rw [if_pos h2] at h0
      exact absurd h0 hx
    · rw [if_neg h2] at h0 ⊢
      by_cases h3 : sgnU (fU 22 0 σ).1 ≤ hi
      · rw [if_pos h3]
        exact ⟨rfl, h1', Int32.not_lt.mp h2, h3⟩
      · rw [if_neg h3] at h0
        exact absurd h0 hx
theorem bk_lf {τ : Sg} {w f n : Nat} (h1 : (fU 22 0 τ).2 6 0 = -1) (h : (fU 22 0 τ).1 = nI n) (hn : 1 ≤ n) (hn2 : n ≤ 64 - w) (hw64 : w ≤ 64) (hx : 0 ≤ fSs (-2047) (nI 2047) (fU 22 0 τ).2 6 0) : fBk (f + 1) w τ = (nI 0, fSs (-2047) (nI 2047) (fU 22 0 τ).2) := by
  rw [bk_n h1 h hn hn2 hw64]
  unfold fSs at hx ⊢
  by_cases h2 : 0 ≤ (fU 22 0 (fU 22 0 τ).2).2 6 0
  · rw [if_pos h2, if_pos h2]
  · rw [if_neg h2] at hx ⊢
    rw [if_neg h2]
    by_cases h3 : sgnU (fU 22 0 (fU 22 0 τ).2).1 < -2047
    · rw [if_pos h3]
      have h4 : ¬ sgnU (fU 22 0 (fU 22 0 τ).2).1 = 0 := fun z => by rw [z] at h3; exact absurd h3 (by decide)
      have h5 : ¬ nI 2047 < sgnU (fU 22 0 (fU 22 0 τ).2).1 := fun z => by
        rw [i_lt] at z h3
        have a1 : (nI 2047).toInt = 2047 := by decide
        have a2 : (-2047 : Int32).toInt = -2047 := by decide
        omega
      rw [if_neg h4, if_neg h5, if_neg (Int32.not_le.mpr h3)]
    · rw [if_neg h3] at hx ⊢
      by_cases h4 : sgnU (fU 22 0 (fU 22 0 τ).2).1 ≤ nI 2047
      · rw [if_pos h4] at hx
        exact absurd hx h2
      · rw [if_neg h4]
        have h5 : ¬ sgnU (fU 22 0 (fU 22 0 τ).2).1 = 0 := fun z => h4 (by rw [z]; decide)
        rw [if_neg h5, if_pos (Int32.not_le.mp h4)]
theorem bk_l0 {τ : Sg} {w f n : Nat} (h1 : (fU 22 0 τ).2 6 0 = -1) (h : (fU 22 0 τ).1 = nI n) (hn : 1 ≤ n) (hn2 : n ≤ 64 - w) (hw64 : w ≤ 64) (h2 : (fU 22 0 (fU 22 0 τ).2).2 6 0 = -1) (h0 : sgnU (fU 22 0 (fU 22 0 τ).2).1 = 0) : fBk (f + 1) w τ = (nI 0, su (fU 22 0 (fU 22 0 τ).2).2 6 0 ((fU 22 0 τ).2 4 0)) := by
  rw [bk_n h1 h hn hn2 hw64, if_neg (by rw [h2]; decide), if_pos h0, fW_n h2]
theorem bk_ls {τ : Sg} {w f n : Nat} (h1 : (fU 22 0 τ).2 6 0 = -1) (h : (fU 22 0 τ).1 = nI n) (hn : 1 ≤ n) (hn2 : n ≤ 64 - w) (hw64 : w ≤ 64) (h2 : (fU 22 0 (fU 22 0 τ).2).2 6 0 = -1) (h0 : ¬ sgnU (fU 22 0 (fU 22 0 τ).2).1 = 0) (hl : -2047 ≤ sgnU (fU 22 0 (fU 22 0 τ).2).1) (hh : sgnU (fU 22 0 (fU 22 0 τ).2).1 ≤ nI 2047) : fBk (f + 1) w τ = fBk f (w + n) (su (su (fU 22 0 (fU 22 0 τ).2).2 38 (zzT (w + n - 1)) (fFac (fU 22 0 (fU 22 0 τ).2).2 (zzT (w + n - 1)) (sgnU (fU 22 0 (fU 22 0 τ).2).1))) 27 0 ((fU 22 0 (fU 22 0 τ).2).2 27 0 + nI 1)) := by
  rw [bk_n h1 h hn hn2 hw64, if_neg (by rw [h2]; decide), if_neg h0, if_neg (Int32.not_lt.mpr hh), if_pos hl]
def TB (κ σ : Sg) : Prop := TA κ σ ∧ κ 1 1 = σ 5 0
/-- how a reading method of the class ends: R where all was well -/
def EP (S : List Nat) (g : Gh) (κ σ' : Sg) (R : Sg → Prop) (o : Out) (g' : Gh) (κ' : Sg) : Prop :=
  kp S κ κ' ∧ ((σ' 6 0 = -1 ∧ o = .inl none ∧ g' = g ∧ R κ') ∨ (0 ≤ σ' 6 0 ∧ o = .inr ISE ∧ g' = gx g ∧ κ' 1 3 = σ' 6 0 ∧ TB κ' σ'))
theorem EP.up {S : List Nat} {g : Gh} {κ κ1 σ' : Sg} {R : Sg → Prop} {o : Out} {g' : Gh} {κ' : Sg} (h : EP S g κ1 σ' R o g' κ') (e : kp S κ κ1) : EP S g κ σ' R o g' κ' := ⟨e.trans h.1, h.2⟩
theorem EP.mono {S T : List Nat} {g : Gh} {κ σ' : Sg} {R R' : Sg → Prop} {o : Out} {g' : Gh} {κ' : Sg} (h : EP S g κ σ' R o g' κ') (hs : ∀ k, k ∈ S → k ∈ T) (hr : σ' 6 0 = -1 → kp S κ κ' → R κ' → R' κ') : EP T g κ σ' R' o g' κ' := by
  obtain ⟨h1, h2⟩ := h
  refine ⟨h1.mono hs, ?_⟩
  rcases h2 with h2 | h2
  · exact Or.inl ⟨h2.1, h2.2.1, h2.2.2.1, hr h2.1 h1 h2.2.2.2⟩
  · exact Or.inr h2
/-- a throw in the tape -/
theorem EP.thr {S : List Nat} {g : Gh} {κ σ σ' τ : Sg} {R : Sg → Prop} {x y : Int32} (h1 : 1 ∈ S) (w : 0 ≤ τ 6 0) (e : σ' = τ) (hy : y = τ 6 0) (ha : TB κ σ) (ht : kp [4, 6] σ τ) : EP S g κ σ' R (.inr ISE) (gx g) (su (su κ 1 2 x) 1 3 y) := by
  subst e
  refine ⟨(kp.su h1).trans (kp.su h1), Or.inr ⟨w, rfl, rfl, (su_at _ _ _ _).trans hy, fun j hj => ?_, ?_⟩⟩
  · rw [su_k (by decide), su_k (by decide), ha.1 j hj]
    exact (ht (20 + j) (by simp; omega) 0).symm
  · rw [su_j (by decide), su_j (by decide), ha.2]
    exact (ht 5 (by decide) 0).symm
theorem tk_kp {σ τ : Sg} (h : tk σ τ) : kp [4, 6] σ τ := kp.tk h (by decide) (by decide)
/-- reading a block -/
def RB (inn : Int32) (w : Nat) (κ τ : Sg) : Prop := TRel κ τ ∧ BW w κ τ ∧ TA κ τ ∧ κ 6 7 = τ 35 0 ∧ τ 32 0 = inn
def RBe (σ' κ' : Sg) : Prop := TRel κ' σ' ∧ BR κ' σ' ∧ TA κ' (su σ' 26 0 (σ' 26 0 + nI 1))
theorem RB.read {inn : Int32} {w : Nat} {κ τ τ' : Sg} (h : RB inn w κ τ) (e : tk τ τ') (r : okR τ') (hw : τ' 6 0 = -1) : RB inn w (su κ 1 2 (τ' 4 0)) τ' := by
  obtain ⟨h1, h2, h3, h4, h5⟩ := h
  have e' := tk_kp e
  have ek : kp [1] κ (su κ 1 2 (τ' 4 0)) := kp.su (by decide)
  refine ⟨h1.next e r hw, (h2.ck ek (by decide) (by decide)).cs e' (by decide), (h3.ck ek (by decide)).cs e' (by decide), ?_, ?_⟩
  · rw [su_k (by decide), h4]
    exact (e' 35 (by decide) 0).symm
  · exact (e' 32 (by decide) 0).trans h5
theorem RB.put {inn : Int32} {w v : Nat} {κ τ : Sg} {lv : Int32} (h : RB inn w κ τ) (hw : w ≤ v) (hv : v < 64) (hl : ¬ lv = 0) : RB inn (v + 1) (su (cPut (zzT v) (cFac inn (κ 6 7) (zzT v) lv) κ) 4 7 (cPut (zzT v) (cFac inn (κ 6 7) (zzT v) lv) κ 4 7 + nI 1)) (su (su τ 38 (zzT v) (fFac τ (zzT v) lv)) 27 0 (τ 27 0 + nI 1)) := by
  obtain ⟨h1, h2, h3, h4, h5⟩ := h
  have ef : cFac inn (κ 6 7) (zzT v) lv = fFac τ (zzT v) lv := by rw [cFac_eq hl, h5, h4]
  rw [ef]
  have hp := h2.put (f := fFac τ (zzT v) lv) hw hv
  have k1 : kp [8, 7] κ (cPut (zzT v) (fFac τ (zzT v) lv) κ) := by
    unfold cPut
    exact ((kp.su (by decide)).trans (kp.su (by decide))).trans (kp.su (by decide))
  have k2 : kp [4] (cPut (zzT v) (fFac τ (zzT v) lv) κ) (su (cPut (zzT v) (fFac τ (zzT v) lv) κ) 4 7 (cPut (zzT v) (fFac τ (zzT v) lv) κ 4 7 + nI 1)) := kp.su (by decide)
  have s1 : kp [38] τ (su τ 38 (zzT v) (fFac τ (zzT v) lv)) := kp.su (by decide)
  have s2 : kp [27] (su τ 38 (zzT v) (fFac τ (zzT v) lv)) (su (su τ 38 (zzT v) (fFac τ (zzT v) lv)) 27 0 (τ 27 0 + nI 1)) := kp.su (by decide)
  refine ⟨((((h1.ck k1 (by decide) (by decide)).ck k2 (by decide) (by decide)).cs s1 (by decide) (by decide) (by decide) (by decide)).cs s2 (by decide) (by decide) (by decide) (by decide)), (hp.ck k2 (by decide) (by decide)).cs s2 (by decide), fun j hj => ?_, ?_, ?_⟩
  · by_cases e : j = 7
    · subst e
      rw [su_at, show su (su τ 38 (zzT v) (fFac τ (zzT v) lv)) 27 0 (τ 27 0 + nI 1) (20 + 7) 0 = τ 27 0 + nI 1 from su_at _ _ _ _, k1 4 (by decide), h3 7 hj]
    · rw [su_j e, k1 4 (by decide), su_k (by omega), su_k (by omega)]
      exact h3 j hj
  · rw [k2 6 (by decide), k1 6 (by decide), s2 35 (by decide), s1 35 (by decide)]
    exact h4
  · rw [s2 32 (by decide), s1 32 (by decide)]
    exact h5
theorem RB.fin {inn : Int32} {w : Nat} {κ τ : Sg} (h : RB inn w κ τ) : RBe τ (su κ 4 6 (κ 4 6 + nI 1)) := by
  obtain ⟨h1, h2, h3, h4, h5⟩ := h
  have k : kp [4] κ (su κ 4 6 (κ 4 6 + nI 1)) := kp.su (by decide)
  refine ⟨h1.ck k (by decide) (by decide), h2.1.ck k (by decide) (by decide), fun j hj => ?_⟩
  by_cases e : j = 6
  · subst e
    rw [su_at, h3 6 hj]
    exact (su_at τ 26 0 _).symm
  · rw [su_j e, su_k (by omega)]
    exact h3 j hj
def DC (κ σ : Sg) : Prop := ∀ p, p < 3 → ∃ d, d ≤ 255 ∧ κ 10 p = nI d ∧ σ 33 p = nI d
theorem kp_clr (σ : Sg) (n : Nat) : kp [38] σ (fClr σ n) := kp.sa (by decide)
section BLK
variable {σ : Sg} {p d : Nat}
theorem blk_o (h : σ 32 0 = 0) : fBlk σ p = fBk 65 0 (fClr σ 64) := if_pos h
theorem blk_f (hR : okR σ) (hw : σ 6 0 = -1) (h : ¬ σ 32 0 = 0) (hd : d ≤ 255) (e : σ 33 p = nI d) (hx : 0 ≤ fSs (-(nI d)) (nI 255 - nI d) (fClr σ 64) 6 0) : fBlk σ p = (nI 0, fSs (-(nI d)) (nI 255 - nI d) (fClr σ 64)) := by
  have k := kp_clr σ 64
  have hR1 : okR (fClr σ 64) := hR.kp k (by decide)
  have hw1 : fClr σ 64 6 0 = -1 := (k 6 (by decide) 0).trans hw
  have e4 : fClr σ 64 4 0 = σ 4 0 := k 4 (by decide) 0
  unfold fBlk
  rw [if_neg h, e]
  unfold fSs at hx ⊢
  rw [e4] at hx ⊢
  by_cases h1 : 0 ≤ (fU 22 0 (fClr σ 64)).2 6 0
  · rw [if_pos h1, if_pos h1]
  · have hs := u_sgn hR1 hw1 h1
    obtain ⟨q1, q2⟩ := dc_eq hd hs
    rw [if_neg h1] at hx ⊢
    rw [if_neg h1]
    by_cases h2 : sgnU (fU 22 0 (fClr σ 64)).1 < -(nI d)
    · rw [if_pos h2, if_pos (q1.mp h2)]
    · rw [if_neg h2] at hx ⊢
      rw [if_neg (fun z => h2 (q1.mpr z))]
      by_cases h3 : sgnU (fU 22 0 (fClr σ 64)).1 ≤ nI 255 - nI d
      · rw [if_pos h3] at hx
        exact absurd hx h1
      · rw [if_neg h3, if_neg (fun z => h3 (q2.mpr z))]
theorem blk_i (hR : okR σ) (hw : σ 6 0 = -1) (h : ¬ σ 32 0 = 0) (hd : d ≤ 255) (e : σ 33 p = nI d) (hx : fSs (-(nI d)) (nI 255 - nI d) (fClr σ 64) 6 0 = -1) : fBlk σ p = fBk 65 1 (su (su (fU 22 0 (fClr σ 64)).2 33 p (nI d + sgnU (fU 22 0 (fClr σ 64)).1)) 38 0 (nI 8 * (nI d + sgnU (fU 22 0 (fClr σ 64)).1))) ∧ ∃ d', d' ≤ 255 ∧ nI d + sgnU (fU 22 0 (fClr σ 64)).1 = nI d' := by
  have k := kp_clr σ 64
  have hR1 : okR (fClr σ 64) := hR.kp k (by decide)
  have hw1 : fClr σ 64 6 0 = -1 := (k 6 (by decide) 0).trans hw
  obtain ⟨v1, v2, v3, v4⟩ := ss_wm hR1 hw1 hx
  have h1 : ¬ 0 ≤ (fU 22 0 (fClr σ 64)).2 6 0 := by rw [v2]; decide
  have hs := u_sgn hR1 hw1 h1
  obtain ⟨q1, q2⟩ := dc_eq hd hs
  have h2 : ¬ nI d + sgnU (fU 22 0 (fClr σ 64)).1 < 0 := fun z => absurd (q1.mpr z) (Int32.not_lt.mpr v3)
  have h3 := q2.mp v4
  refine ⟨?_, nI_of2 (M := nI 255) (n := 255) (by decide) h2 h3⟩
  unfold fBlk
  rw [if_neg h, e, if_neg h1, if_neg h2, if_pos h3]
end BLK
/-- a new block: nothing in it -/
theorem RB.new {inn : Int32} {κ σ : Sg} (hT : TRel κ σ) (hA : TA κ σ) (hq : κ 6 7 = σ 35 0) (hi : σ 32 0 = inn) : RB inn 0 (su (su (fFl κ 8 (nI 0) 64) 7 2 (nI 0)) 7 3 (nI 0)) (fClr σ 64) := by
  have k := kp_clr σ 64
  have k2 : kp [8, 7] κ (su (su (fFl κ 8 (nI 0) 64) 7 2 (nI 0)) 7 3 (nI 0)) := ((kp.sa (by decide)).trans (kp.su (by decide))).trans (kp.su (by decide))
  refine ⟨(hT.ck k2 (by decide) (by decide)).cs k (by decide) (by decide) (by decide) (by decide), BW.clr (fun j hj => ?_) ?_ (su_at _ _ _ _), (hA.ck k2 (by decide)).cs k (by decide), ?_, ?_⟩
  · rw [su_k (by decide), su_k (by decide)]
    show sa κ 8 _ 8 j = _
    rw [sa_at, if_pos hj]
  · rw [su_j (by decide), su_at]
  · rw [k2 6 (by decide), k 35 (by decide)]
    exact hq
  · exact (k 32 (by decide) 0).trans hi
theorem RB.dc {inn : Int32} {κ τ : Sg} {p : Nat} {v : Int32} (h : RB inn 0 κ τ) : RB inn 1 (cPut 0 (nI 8 * v) (su κ 10 p v)) (su (su τ 33 p v) 38 0 (nI 8 * v)) := by
  obtain ⟨h1, h2, h3, h4, h5⟩ := h
  have k1 : kp [10] κ (su κ 10 p v) := kp.su (by decide)
  have k2 : kp [8, 7] (su κ 10 p v) (cPut 0 (nI 8 * v) (su κ 10 p v)) := by
    unfold cPut
    exact ((kp.su (by decide)).trans (kp.su (by decide))).trans (kp.su (by decide))
  have s1 : kp [33] τ (su τ 33 p v) := kp.su (by decide)
  have s2 : kp [38] (su τ 33 p v) (su (su τ 33 p v) 38 0 (nI 8 * v)) := kp.su (by decide)
  have hb : BW 1 (cPut (zzT 0) (nI 8 * v) (su κ 10 p v)) (su (su τ 33 p v) 38 (zzT 0) (nI 8 * v)) := ((h2.ck k1 (by decide) (by decide)).cs s1 (by decide)).put (by decide) (by decide)
  refine ⟨((((h1.ck k1 (by decide) (by decide)).ck k2 (by decide) (by decide)).cs s1 (by decide) (by decide) (by decide) (by decide)).cs s2 (by decide) (by decide) (by decide) (by decide)), hb, (((h3.ck k1 (by decide)).ck k2 (by decide)).cs s1 (by decide)).cs s2 (by decide), ?_, ?_⟩
  · rw [k2 6 (by decide), k1 6 (by decide), s2 35 (by decide), s1 35 (by decide)]
    exact h4
  · rw [s2 32 (by decide), s1 32 (by decide)]
    exact h5
theorem DC.blk {κ κ2 κ' σ τ2 σ' : Sg} {p d' : Nat} {v : Int32} (h : DC κ σ) (hv : v = nI d') (hd : d' ≤ 255) (k1 : κ2 10 p = v) (k2 : ∀ j, j ≠ p → κ2 10 j = κ 10 j) (k3 : ∀ j, κ' 10 j = κ2 10 j) (t1 : τ2 33 p = v) (t2 : ∀ j, j ≠ p → τ2 33 j = σ 33 j) (t3 : ∀ j, σ' 33 j = τ2 33 j) : DC κ' σ' := by
  intro p2 hp2
  by_cases e : p2 = p
  · subst e
    exact ⟨d', hd, (k3 _).trans (k1.trans hv), (t3 _).trans (t1.trans hv)⟩
  · obtain ⟨d, h1, h2, h3⟩ := h p2 hp2
    exact ⟨d, h1, ((k3 _).trans (k2 _ e)).trans h2, ((t3 _).trans (t2 _ e)).trans h3⟩
/-! ===== vectors ===== -/
theorem vc_f {R n k : Nat} {τ : Sg} (hV : okV R) (hR : okR τ) (hw : τ 6 0 = -1) (hx : 0 ≤ fSs (-(nI R / nI 2)) (nI R / nI 2 - nI 1) τ 6 0) : fVc (nI R) (n + 1) k τ = (nI 0, fSs (-(nI R / nI 2)) (nI R / nI 2 - nI 1) τ) := by
  obtain ⟨q1, q2⟩ := ss_v (s := sgnU (fU 22 0 τ).1) hV
  unfold fVc
  unfold fSs at hx ⊢
  by_cases h1 : 0 ≤ (fU 22 0 τ).2 6 0
  · rw [if_pos h1, if_pos h1]
  · rw [if_neg h1] at hx ⊢
    rw [if_neg h1]
    by_cases h2 : sgnU (fU 22 0 τ).1 < -(nI R / nI 2)
    · rw [if_pos h2, if_pos (q1.mpr h2)]
    · rw [if_neg h2] at hx ⊢
      rw [if_neg (fun z => h2 (q1.mp z))]
      by_cases h3 : sgnU (fU 22 0 τ).1 ≤ nI R / nI 2 - nI 1
      · rw [if_pos h3] at hx
        exact absurd hx h1
      · rw [if_neg h3, if_neg (fun z => h3 (q2.mp z))]
theorem vc_s {R n k : Nat} {τ : Sg} (hV : okV R) (hR : okR τ) (hw : τ 6 0 = -1) (hx : fSs (-(nI R / nI 2)) (nI R / nI 2 - nI 1) τ 6 0 = -1) : fVc (nI R) (n + 1) k τ = fVc (nI R) n (k + 1) (su (su (fU 22 0 τ).2 29 k (vwr (nI R) (τ 29 k + sgnU (fU 22 0 τ).1))) 28 k (vwr (nI R) (τ 29 k + sgnU (fU 22 0 τ).1))) ∧ ¬ sgnU (fU 22 0 τ).1 < -(nI R) / nI 2 ∧ sgnU (fU 22 0 τ).1 < nI R / nI 2 := by
  obtain ⟨q1, q2⟩ := ss_v (s := sgnU (fU 22 0 τ).1) hV
  obtain ⟨v1, v2, v3, v4⟩ := ss_wm hR hw hx
  have h2 : ¬ sgnU (fU 22 0 τ).1 < -(nI R) / nI 2 := fun z => absurd (q1.mp z) (Int32.not_lt.mpr v3)
  have h3 := q2.mpr v4
  refine ⟨?_, h2, h3⟩
  rw [fVc, if_neg (by rw [v2]; decide), if_neg h2, if_pos h3]
/-- the vectors as foretold, those of one way, and their range -/
def VG (R : Nat) (σ : Sg) : Prop := ∀ j, j < 4 → -(R / 2 : Int) ≤ (σ 29 j).toInt ∧ (σ 29 j).toInt < R / 2
def VW (w k : Nat) (κ τ : Sg) : Prop := (∀ j, j < 2 → κ (11 + w) j = τ 29 (2 * w + j)) ∧ ∀ j, j < k → τ 28 (2 * w + j) = τ 29 (2 * w + j)
def VL (R w k : Nat) (κ τ : Sg) : Prop := TRel κ τ ∧ TA κ τ ∧ κ 6 8 = nI R ∧ VW w k κ τ ∧ VG R τ
theorem VL.step {R w k : Nat} {κ τ : Sg} {s v : Int32} (hV : okV R) (h : VL R w k κ τ) (hw : w < 2) (hk : k < 2) (h2 : (fU 22 0 τ).2 6 0 = -1) (hs : s = sgnU (fU 22 0 τ).1) (hs1 : ¬ s < -(nI R) / nI 2) (hs2 : s < nI R / nI 2) (hv : v = vwr (nI R) (τ 29 (2 * w + k) + s)) : VL R w (k + 1) (su (su κ 1 2 ((fU 22 0 τ).2 4 0)) (11 + w) k v) (su (su (fU 22 0 τ).2 29 (2 * w + k) v) 28 (2 * w + k) v) := by
  obtain ⟨h1, hA, h6, hW, hG⟩ := h
  have e := tk_u 22 0 τ
  have e' := tk_kp e
  have k1 : kp [1] κ (su κ 1 2 ((fU 22 0 τ).2 4 0)) := kp.su (by decide)
  have k2 : kp [11 + w] (su κ 1 2 ((fU 22 0 τ).2 4 0)) (su (su κ 1 2 ((fU 22 0 τ).2 4 0)) (11 + w) k v) := kp.su (by simp)
  have s1 : kp [29] (fU 22 0 τ).2 (su (fU 22 0 τ).2 29 (2 * w + k) v) := kp.su (by decide)
  have s2 : kp [28] (su (fU 22 0 τ).2 29 (2 * w + k) v) (su (su (fU 22 0 τ).2 29 (2 * w + k) v) 28 (2 * w + k) v) := kp.su (by decide)
  refine ⟨((((h1.next e (okR.u 22 0 h1.1) h2).ck k2 (by simp; omega) (by simp; omega)).cs s1 (by decide) (by decide) (by decide) (by decide)).cs s2 (by decide) (by decide) (by decide) (by decide)), ((((hA.ck k1 (by decide)).ck k2 (by simp; omega)).cs e' (by decide)).cs s1 (by decide)).cs s2 (by decide), ?_, ⟨fun j hj => ?_, fun j hj => ?_⟩, fun j hj => ?_⟩
  · rw [k2 6 (by simp; omega), k1 6 (by decide)]
    exact h6
  · rw [s2 29 (by decide)]
    by_cases ej : j = k
    · subst ej
      rw [su_at, su_at]
    · have hne : 2 * w + j ≠ 2 * w + k := by omega
      rw [su_j ej, su_j hne, k1 (11 + w) (by simp; omega), e 29 (by decide) (by decide)]
      exact hW.1 j hj
  · by_cases ej : j = k
    · subst ej
      rw [su_at, su_k (by decide), su_at]
    · have hne : 2 * w + j ≠ 2 * w + k := by omega
      rw [su_j hne, s1 28 (by decide), s2 29 (by decide), su_j hne, e 28 (by decide) (by decide), e 29 (by decide) (by decide)]
      exact hW.2 j (by omega)
  · rw [s2 29 (by decide)]
    by_cases ej : j = 2 * w + k
    · subst ej
      rw [su_at, hv]
      exact vwr_r hV (hG _ hj) hs1 hs2
    · rw [su_j ej, e 29 (by decide) (by decide)]
      exact hG j hj
/-! ===== the blocks of a square ===== -/
theorem blk_in {A B s b i : Nat} (hA : 1 ≤ A ∧ A ≤ 4) (hs : s < A * B) (hb : b < 6) (h : inW (wdN A (bP b)) (bX (s % A) b) (bY (s / A) b) i) : sqN A (bP b) i = s := by
  obtain ⟨⟨h1, h2⟩, h3, h4⟩ := h
  have hm := Nat.div_add_mod s A
  unfold sqN
  by_cases e : b < 4
  · have e1 : bP b = 0 := if_pos e
    rw [e1] at h1 h2 h3 h4 ⊢
    unfold bX at h1 h2
    unfold bY at h3 h4
    rw [if_pos e] at h1 h2 h3 h4
    have z1 : i / wdN A 0 / szN 0 = s / A := by
      show i / wdN A 0 / 16 = s / A
      omega
    have z2 : i % wdN A 0 / szN 0 = s % A := by
      show i % wdN A 0 / 16 = s % A
      omega
    rw [z1, z2, Nat.mul_comm]
    exact hm
  · unfold bX at h1 h2
    unfold bY at h3 h4
    rw [if_neg e] at h1 h2 h3 h4
    have e1 : szN (bP b) = 8 := by
      unfold bP szN
      rw [if_neg e, if_neg (by omega)]
    rw [e1]
    have z1 : i / wdN A (bP b) / 8 = s / A := by omega
    have z2 : i % wdN A (bP b) / 8 = s % A := by omega
    rw [z1, z2, Nat.mul_comm]
    exact hm
theorem blk_cov {A s p i : Nat} (hA : 1 ≤ A ∧ A ≤ 4) (hp : p < 3) (h : sqN A p i = s) : ∃ b, b < 6 ∧ bP b = p ∧ inW (wdN A p) (bX (s % A) b) (bY (s / A) b) i := by
  obtain ⟨h1, h2, h3⟩ := sq_q (p := p) (i := i) hA
  rw [h] at h2 h3
  by_cases e : p = 0
  · subst e
    have h2 : s % A = i % wdN A 0 / 16 := h2
    have h3 : s / A = i / wdN A 0 / 16 := h3
    refine ⟨2 * (i / wdN A 0 % 16 / 8) + i % wdN A 0 % 16 / 8, by omega, if_pos (by omega), ?_⟩
    unfold bX bY inW
    rw [if_pos (by omega), if_pos (by omega), h2, h3]
    omega
  · have e8 : szN p = 8 := if_neg e
    rw [e8] at h2 h3
    refine ⟨p + 3, by omega, ?_, ?_⟩
    · unfold bP
      rw [if_neg (by omega)]
      omega
    · unfold bX bY inW
      rw [if_neg (by omega), if_neg (by omega), h2, h3]
      omega
def SB (A s : Nat) (inn : Int32) (b p i : Nat) : Prop := sqN A p i < s ∨ (sqN A p i = s ∧ (inn = 0 ∨ ∃ b', b' < b ∧ bP b' = p ∧ inW (wdN A p) (bX (s % A) b') (bY (s / A) b') i))
theorem DR.mono {A B q k : Nat} {S T : Nat → Nat → Prop} {κ σ : Sg} (h : DR A B q k S κ σ) (hs : ∀ p i, p < 3 → i < wdN A p * wdN B p → T p i → S p i) : DR A B q k T κ σ := fun p i hp hi ht => h p i hp hi (hs p i hp hi ht)
theorem DR.ck {S : List Nat} {A B q k : Nat} {T : Nat → Nat → Prop} {κ κ' σ : Sg} (h : DR A B q k T κ σ) (e : kp S κ κ') (hs : ∀ p, p < 3 → idD q p ∉ S) : DR A B q k T κ' σ := fun p i hp hi ht => by
  rw [e _ (hs p hp)]
  exact h p i hp hi ht
theorem DR.cs {S : List Nat} {A B q k : Nat} {T : Nat → Nat → Prop} {κ σ σ' : Sg} (h : DR A B q k T κ σ) (e : kp S σ σ') (hs : k ∉ S) : DR A B q k T κ σ' := fun p i hp hi ht => by
  rw [e _ hs]
  exact h p i hp hi ht
abbrev LB (g : Gh) : List Nat := [1, 4, 7, 8, 9, 10, idD (gN g) 0, idD (gN g) 1, idD (gN g) 2]
abbrev MB : List Nat := [4, 6, 9, 26, 27, 33, 38, 39]
theorem nid {q p n : Nat} (h : n < 20) : idD q p ≠ n := by unfold idD; omega
theorem inD {q p : Nat} (hp : p < 3) : idD q p ∈ [1, 4, 7, 8, 9, 10, idD q 0, idD q 1, idD q 2] := by
  rcases (show p = 0 ∨ p = 1 ∨ p = 2 by omega) with rfl | rfl | rfl <;> simp
/-- the blocks' loop: b of them are through -/
def BL (A B s : Nat) (g : Gh) (inn : Int32) (κ0 σ0 : Sg) (b : Nat) (κ σ : Sg) : Prop := (kp (LB g) κ0 κ ∧ kp MB σ0 σ) ∧ TRel κ σ ∧ TA κ σ ∧ DR A B (gN g) 9 (SB A s inn b) κ σ ∧ (¬ inn = 0 → DC κ σ) ∧ (inn = 0 → ∀ j, κ 10 j = κ0 10 j)
theorem BL.next {A B s b : Nat} {g : Gh} {inn : Int32} {κ0 σ0 κ σ κ1 : Sg} (hA : okAB A B) (hs : s < A * B) (hb : b < 6) (h : BL A B s g inn κ0 σ0 b κ σ) (hi : σ 32 0 = inn) (k1 : kp [1, 4, 7, 8, 10] κ κ1) (hR : RBe (fBlk σ (bP b)).2 κ1) (hD : ¬ inn = 0 → DC κ1 (fBlk σ (bP b)).2) (hD2 : inn = 0 → ∀ j, κ1 10 j = κ 10 j) : BL A B s g inn κ0 σ0 (b + 1) (cDraw (cMk κ1) (idD (gN g) (bP b)) (wdN A (bP b)) (bX (s % A) b) (bY (s / A) b) inn) (fBs σ A B s b) := by
  obtain ⟨⟨h1, h2⟩, h3, h4, h5, h6, h7⟩ := h
  obtain ⟨r1, r2, r3⟩ := hR
  have hp : bP b < 3 := (bXY hA.1 hs hb).1
  have kb := kp_blk σ (bP b)
  have kc : kp [26] (fBlk σ (bP b)).2 (su (fBlk σ (bP b)).2 26 0 ((fBlk σ (bP b)).2 26 0 + nI 1)) := kp.su (by decide)
  have km : kp [9, 38, 39] (su (fBlk σ (bP b)).2 26 0 ((fBlk σ (bP b)).2 26 0 + nI 1)) (fBs σ A B s b) := kp_sm _ _ _ _ _ _
  have kk : kp [7, 8, 9] κ1 (cMk κ1) := fun k hk j => mk_k (fun z => hk (by rw [z]; decide)) (fun z => hk (by rw [z]; decide)) (fun z => hk (by rw [z]; decide))
  have kd : kp [idD (gN g) (bP b)] (cMk κ1) (cDraw (cMk κ1) (idD (gN g) (bP b)) (wdN A (bP b)) (bX (s % A) b) (bY (s / A) b) inn) := kp.sa (by simp)
  have hi1 : su (fBlk σ (bP b)).2 26 0 ((fBlk σ (bP b)).2 26 0 + nI 1) 32 0 = inn := by
    rw [kc 32 (by decide), kb 32 (by decide)]
    exact hi
  have d0 : DR A B (gN g) 9 (SB A s inn b) κ1 (su (fBlk σ (bP b)).2 26 0 ((fBlk σ (bP b)).2 26 0 + nI 1)) := ((h5.ck k1 (fun p hp => by simp [nid])).cs kb (by decide)).cs kc (by decide)
  have d1 := draw_DR (N := gN g) (p := bP b) (x0 := bX (s % A) b) (y0 := bY (s / A) b) hA.1 hA.2 hp hi1 (r2.cs kc (by decide)) (fun e i hi hw => Or.inr ⟨blk_in hA.1 hs hb hw, Or.inl e⟩) d0
  refine ⟨⟨?_, ?_⟩, ?_, ?_, ?_, ?_, ?_⟩
  · refine h1.trans (kp.trans (k1.mono (fun k hk => by simp at hk ⊢; omega)) (kp.trans (kk.mono (fun k hk => by simp at hk ⊢; omega)) (kd.mono (fun k hk => ?_))))
    simp only [List.mem_singleton] at hk
    rw [hk]
    exact inD hp
  · exact h2.trans ((kb.mono (by decide)).trans ((kc.mono (by decide)).trans (km.mono (by decide))))
  · exact ((((r1.cs kc (by decide) (by decide) (by decide) (by decide)).cs km (by decide) (by decide) (by decide) (by decide)).ck kk (by decide) (by decide)).ck kd (by simp; exact fun z => nid (by decide) z.symm) (by simp; exact fun z => nid (by decide) z.symm))
  · exact ((r3.cs km (by decide)).ck kk (by decide)).ck kd (by simp; exact fun z => nid (by decide) z.symm)
  · refine d1.mono (fun p i hp hi hz => ?_)
    rcases hz with hz | ⟨hz, hz2⟩
    · exact Or.inl (Or.inl hz)
    · rcases hz2 with hz2 | ⟨b', hb', hz3, hz4⟩
      · exact Or.inl (Or.inr ⟨hz, Or.inl hz2⟩)
      · by_cases e : b' = b
        · subst e
          subst hz3
          exact Or.inr ⟨rfl, hz4⟩
        · exact Or.inl (Or.inr ⟨hz, Or.inr ⟨b', by omega, hz3, hz4⟩⟩)
  · intro e
    intro p2 hp2
    obtain ⟨d, e1, e2, e3⟩ := hD e p2 hp2
    refine ⟨d, e1, ?_, ?_⟩
    · rw [kd 10 (by simp; exact fun z => nid (by decide) z.symm), kk 10 (by decide)]
      exact e2
    · rw [km 33 (by decide), kc 33 (by decide)]
      exact e3
  · intro e j
    rw [kd 10 (by simp; exact fun z => nid (by decide) z.symm), kk 10 (by decide), hD2 e]
    exact h7 e j
theorem BL.skip {A B s b : Nat} {g : Gh} {inn : Int32} {κ0 σ0 κ σ : Sg} (h : BL A B s g inn κ0 σ0 b κ σ) (hi : inn = 0) : BL A B s g inn κ0 σ0 (b + 1) κ σ := by
  obtain ⟨h1, h3, h4, h5, h6, h7⟩ := h
  refine ⟨h1, h3, h4, h5.mono (fun p i _ _ hz => ?_), h6, h7⟩
  rcases hz with hz | ⟨hz, hz2⟩
  · exact Or.inl hz
  · exact Or.inr ⟨hz, Or.inl hi⟩
theorem BL.whole {A B s : Nat} {g : Gh} {inn : Int32} {κ0 σ0 κ σ : Sg} (hA : okAB A B) (h : BL A B s g inn κ0 σ0 6 κ σ) : DR A B (gN g) 9 (fun p i => sqN A p i < s + 1) κ σ := by
  refine h.2.2.2.1.mono (fun p i hp hi hz => ?_)
  rcases Nat.lt_or_ge (sqN A p i) s with h1 | h1
  · exact Or.inl h1
  · have e : sqN A p i = s := by omega
    refine Or.inr ⟨e, Or.inr ?_⟩
    exact blk_cov hA.1 hp e
