/-! ===== marks and alignment: the reference's way is the class's ===== -/
theorem if_w {one two : Int32} {σ : Sg} (w : 0 ≤ σ 6 0) : ∀ (n : Nat) (a b : Int32), fIF one two n a b σ = (a, σ)
  | 0, _, _ => rfl
  | n + 1, a, b => by
    unfold fIF
    rw [if_pos w]
theorem bit_k {σ : Sg} (hR : okR σ) (hw : σ 6 0 = -1) (h2 : ¬ 0 ≤ (fBit σ).2 6 0) : (fBit σ).2 6 0 = -1 := by
  obtain ⟨p, e, a1, a2, a3, a4, a5⟩ := bit_at hR.1 (by rw [hw]; decide) h2
  rw [a5]
  exact (show su σ 4 0 (nI (p + 1)) 6 0 = σ 6 0 from su_k (by decide)).trans hw
theorem if_ex {v : Int32} : ∀ (n : Nat) (σ : Sg), okR σ → σ 6 0 = -1 → (fIF v v n (nI 1) (nI 1) σ).2 = fEx v n σ
  | 0, _, _, _ => rfl
  | n + 1, σ, hR, hw => by
    have hw' : ¬ 0 ≤ σ 6 0 := by rw [hw]; decide
    unfold fIF fEx
    rw [if_neg hw']
    by_cases h2 : 0 ≤ (fBit σ).2 6 0
    · rw [if_pos h2, if_pos h2]
    · rw [if_neg h2, if_neg h2]
      have h3 : (fBit σ).2 6 0 = -1 := by
        exact bit_k hR hw h2
      by_cases h4 : v >>> (nI n &&& 31) &&& nI 1 = (fBit σ).1
      · have e1 : nx1 v n (nI 1) (fBit σ).1 = nI 1 := by
          unfold nx1
          rw [if_neg (by decide), if_pos h4]
        rw [e1, if_neg (by decide), if_pos h4.symm]
        exact if_ex n _ hR.bit h3
      · have e1 : nx1 v n (nI 1) (fBit σ).1 = nI 0 := by
          unfold nx1
          rw [if_neg (by decide), if_neg h4]
        have h5 := wrong_in hR.1 hw' h2
        rw [e1, if_pos (show nI 0 = 0 by decide), if_pos (show nI 0 = 0 by decide), if_w h5, if_neg (fun z => h4 z.symm)]
theorem if_10 {v t : Int32} : ∀ (n : Nat) (σ : Sg), okR σ → σ 6 0 = -1 → (fIF v t n (nI 1) (nI 0) σ).2 = fEx v n σ ∧ (fEx v n σ 6 0 = -1 → (fIF v t n (nI 1) (nI 0) σ).1 = nI 1)
  | 0, _, _, _ => ⟨rfl, fun _ => rfl⟩
  | n + 1, σ, hR, hw => by
    have hw' : ¬ 0 ≤ σ 6 0 := by rw [hw]; decide
    unfold fIF fEx
    rw [if_neg hw']
    by_cases h2 : 0 ≤ (fBit σ).2 6 0
    · rw [if_pos h2, if_pos h2]
      exact ⟨rfl, fun z => absurd h2 (by rw [z]; decide)⟩
    · rw [if_neg h2, if_neg h2]
      have h3 : (fBit σ).2 6 0 = -1 := by
        exact bit_k hR hw h2
      have e0 : nx1 t n (nI 0) (fBit σ).1 = nI 0 := by
        unfold nx1
        rw [if_pos (by decide)]
      by_cases h4 : v >>> (nI n &&& 31) &&& nI 1 = (fBit σ).1
      · have e1 : nx1 v n (nI 1) (fBit σ).1 = nI 1 := by
          unfold nx1
          rw [if_neg (by decide), if_pos h4]
        rw [e1, e0, if_neg (by decide), if_pos h4.symm]
        exact if_10 n _ hR.bit h3
      · have e1 : nx1 v n (nI 1) (fBit σ).1 = nI 0 := by
          unfold nx1
          rw [if_neg (by decide), if_neg h4]
        have h5 := wrong_in hR.1 hw' h2
        rw [e1, e0, if_pos (show nI 0 = 0 by decide), if_pos (show nI 0 = 0 by decide), if_w h5, if_neg (fun z => h4 z.symm)]
        exact ⟨rfl, fun z => absurd h5 (by rw [z]; decide)⟩
theorem if_01 {v t : Int32} : ∀ (n : Nat) (σ : Sg), okR σ → σ 6 0 = -1 → (fIF v t n (nI 0) (nI 1) σ).2 = fEx t n σ ∧ (fEx t n σ 6 0 = -1 → (fIF v t n (nI 0) (nI 1) σ).1 = nI 0)
  | 0, _, _, _ => ⟨rfl, fun _ => rfl⟩
  | n + 1, σ, hR, hw => by
    have hw' : ¬ 0 ≤ σ 6 0 := by rw [hw]; decide
    unfold fIF fEx
    rw [if_neg hw']
    by_cases h2 : 0 ≤ (fBit σ).2 6 0
    · rw [if_pos h2, if_pos h2]
      exact ⟨rfl, fun z => absurd h2 (by rw [z]; decide)⟩
    · rw [if_neg h2, if_neg h2]
      have h3 : (fBit σ).2 6 0 = -1 := by
        exact bit_k hR hw h2
      have e0 : nx1 v n (nI 0) (fBit σ).1 = nI 0 := by
        unfold nx1
        rw [if_pos (by decide)]
      by_cases h4 : t >>> (nI n &&& 31) &&& nI 1 = (fBit σ).1
      · have e1 : nx1 t n (nI 1) (fBit σ).1 = nI 1 := by
          unfold nx1
          rw [if_neg (by decide), if_pos h4]
        rw [e1, e0, if_pos (by decide), if_neg (by decide), if_pos h4.symm]
        exact if_01 n _ hR.bit h3
      · have e1 : nx1 t n (nI 1) (fBit σ).1 = nI 0 := by
          unfold nx1
          rw [if_neg (by decide), if_neg h4]
        have h5 := wrong_in hR.1 hw' h2
        rw [e1, e0, if_pos (show nI 0 = 0 by decide), if_pos (show nI 0 = 0 by decide), if_w h5, if_neg (fun z => h4 z.symm)]
        exact ⟨rfl, fun z => absurd h5 (by rw [z]; decide)⟩
theorem mk1 : ∀ n, n < 24 → nI 256 >>> (nI (n + 8) &&& 31) &&& nI 1 = nI 1 >>> (nI n &&& 31) &&& nI 1 ∧ nI 439 >>> (nI (n + 8) &&& 31) &&& nI 1 = nI 1 >>> (nI n &&& 31) &&& nI 1 := by decide +kernel
theorem ex_wm {v : Int32} : ∀ (n : Nat) (σ : Sg), okR σ → σ 6 0 = -1 → fEx v n σ 6 0 = -1 ∨ 0 ≤ fEx v n σ 6 0
  | 0, σ, _, hw => Or.inl hw
  | n + 1, σ, hR, hw => by
    have hw' : ¬ 0 ≤ σ 6 0 := by rw [hw]; decide
    unfold fEx
    by_cases h2 : 0 ≤ (fBit σ).2 6 0
    · rw [if_pos h2]
      exact Or.inr h2
    · rw [if_neg h2]
      have h3 : (fBit σ).2 6 0 = -1 := by
        exact bit_k hR hw h2
      by_cases h4 : (fBit σ).1 = v >>> (nI n &&& 31) &&& nI 1
      · rw [if_pos h4]
        exact ex_wm n _ hR.bit h3
      · rw [if_neg h4]
        exact Or.inr (wrong_in hR.1 hw' h2)
theorem if_mk : ∀ (n : Nat) (σ : Sg), n ≤ 24 → okR σ → σ 6 0 = -1 → (0 ≤ fEx (nI 1) n σ 6 0 → (fIF (nI 256) (nI 439) (n + 8) (nI 1) (nI 1) σ).2 = fEx (nI 1) n σ) ∧ (fEx (nI 1) n σ 6 0 = -1 → fIF (nI 256) (nI 439) (n + 8) (nI 1) (nI 1) σ = fIF (nI 256) (nI 439) 8 (nI 1) (nI 1) (fEx (nI 1) n σ))
  | 0, σ, _, _, hw => ⟨fun z => by
      have z : 0 ≤ σ 6 0 := z
      rw [hw] at z
      exact absurd z (by decide), fun _ => rfl⟩
  | n + 1, σ, hn, hR, hw => by
    have hw' : ¬ 0 ≤ σ 6 0 := by rw [hw]; decide
    obtain ⟨m1, m2⟩ := mk1 n (by omega)
    show (_ → (fIF (nI 256) (nI 439) ((n + 8) + 1) (nI 1) (nI 1) σ).2 = _) ∧ (_ → fIF (nI 256) (nI 439) ((n + 8) + 1) (nI 1) (nI 1) σ = _)
    have u1 : fIF (nI 256) (nI 439) ((n + 8) + 1) (nI 1) (nI 1) σ = (if 0 ≤ (fBit σ).2 6 0 then (nI 0, (fBit σ).2) else
      if nx1 (nI 256) (n + 8) (nI 1) (fBit σ).1 = 0 then (if nx1 (nI 439) (n + 8) (nI 1) (fBit σ).1 = 0 then fIF (nI 256) (nI 439) (n + 8) (nx1 (nI 256) (n + 8) (nI 1) (fBit σ).1) (nx1 (nI 439) (n + 8) (nI 1) (fBit σ).1) (fW (fBit σ).2 ((fBit σ).2 4 0 - nI 1)) else fIF (nI 256) (nI 439) (n + 8) (nx1 (nI 256) (n + 8) (nI 1) (fBit σ).1) (nx1 (nI 439) (n + 8) (nI 1) (fBit σ).1) (fBit σ).2) else fIF (nI 256) (nI 439) (n + 8) (nx1 (nI 256) (n + 8) (nI 1) (fBit σ).1) (nx1 (nI 439) (n + 8) (nI 1) (fBit σ).1) (fBit σ).2) := by
      rw [fIF, if_neg hw']
    rw [u1]
    have u2 : fEx (nI 1) (n + 1) σ = if 0 ≤ (fBit σ).2 6 0 then (fBit σ).2 else if (fBit σ).1 = nI 1 >>> (nI n &&& 31) &&& nI 1 then fEx (nI 1) n (fBit σ).2 else fW (fBit σ).2 ((fBit σ).2 4 0 - nI 1) := rfl
    rw [u2]
    by_cases h2 : 0 ≤ (fBit σ).2 6 0
    · rw [if_pos h2, if_pos h2]
      exact ⟨fun _ => rfl, fun z => absurd h2 (by rw [z]; decide)⟩
    · rw [if_neg h2, if_neg h2]
      have h3 : (fBit σ).2 6 0 = -1 := by
        exact bit_k hR hw h2
      by_cases h4 : nI 1 >>> (nI n &&& 31) &&& nI 1 = (fBit σ).1
      · have e1 : nx1 (nI 256) (n + 8) (nI 1) (fBit σ).1 = nI 1 := by
          unfold nx1
          rw [if_neg (by decide), if_pos (m1.trans h4)]
        have e2 : nx1 (nI 439) (n + 8) (nI 1) (fBit σ).1 = nI 1 := by
          unfold nx1
          rw [if_neg (by decide), if_pos (m2.trans h4)]
        rw [e1, e2, if_neg (show ¬ nI 1 = 0 by decide), if_pos h4.symm]
        exact if_mk n _ (by omega) hR.bit h3
      · have e1 : nx1 (nI 256) (n + 8) (nI 1) (fBit σ).1 = nI 0 := by
          unfold nx1
          rw [if_neg (by decide), if_neg (fun z => h4 (m1.symm.trans z))]
        have e2 : nx1 (nI 439) (n + 8) (nI 1) (fBit σ).1 = nI 0 := by
          unfold nx1
          rw [if_neg (by decide), if_neg (fun z => h4 (m2.symm.trans z))]
        have h5 := wrong_in hR.1 hw' h2
        rw [e1, e2, if_pos (show nI 0 = 0 by decide), if_pos (show nI 0 = 0 by decide), if_w h5, if_neg (fun z => h4 z.symm)]
        exact ⟨fun _ => rfl, fun z => absurd h5 (by rw [z]; decide)⟩
theorem al_ex : ∀ (f : Nat) (σ : Sg) (p : Nat), okR σ → σ 4 0 = nI p → p ≤ 32000 → σ 6 0 = -1 → (8 - p % 8) % 8 ≤ f → fAl f σ = fEx (nI 0) ((8 - p % 8) % 8) σ
  | 0, σ, p, _, _, _, _, hf => by
    rw [show (8 - p % 8) % 8 = 0 by omega]
    rfl
  | f + 1, σ, p, hR, hp, hp2, hw, hf => by
    have hw' : ¬ 0 ≤ σ 6 0 := by rw [hw]; decide
    unfold fAl
    rw [if_neg hw', hp, show nI p - nI p / nI 8 * nI 8 = nI (p % 8) from pk_rem (by omega) (by decide) (by decide)]
    by_cases h0 : p % 8 = 0
    · rw [h0, if_pos (show nI 0 = 0 by decide)]
      rfl
    · have hz : ¬ nI (p % 8) = 0 := nI_ne0 (by omega) (by omega)
      rw [if_neg hz]
      obtain ⟨k, hk⟩ : ∃ k, (8 - p % 8) % 8 = k + 1 := ⟨(8 - p % 8) % 8 - 1, by omega⟩
      rw [hk]
      have e0 : nI 0 >>> (nI k &&& 31) &&& nI 1 = nI 0 := by
        have hk7 : k < 8 := by omega
        revert hk7
        exact (show ∀ k, k < 8 → nI 0 >>> (nI k &&& 31) &&& nI 1 = nI 0 by decide +kernel) k
      unfold fEx
      by_cases h2 : 0 ≤ (fBit σ).2 6 0
      · rw [if_pos h2]
        have hb0 : (fBit σ).1 = 0 := by
          unfold fBit at h2 ⊢
          rw [if_neg hw'] at h2 ⊢
          by_cases h9 : σ 4 0 = σ 5 0
          · rw [if_pos h9]
          · rw [if_neg h9] at h2
            exact absurd ((show su σ 4 0 (σ 4 0 + 1) 6 0 = σ 6 0 from su_k (by decide)) ▸ (show 0 ≤ su σ 4 0 (σ 4 0 + 1) 6 0 from h2)) hw'
        rw [hb0, if_neg (by decide)]
        cases f with
        | zero => rfl
        | succ f =>
          unfold fAl
          rw [if_pos h2]
      · rw [if_neg h2]
        obtain ⟨p2, e2, a1, a2, a3, a4, a5⟩ := bit_at hR.1 hw' h2
        have hpp : p2 = p := by
          rw [hp] at a1
          exact ((nI_eq (by omega) (by omega)).mp a1).symm
        subst hpp
        have h3 : (fBit σ).2 6 0 = -1 := bit_k hR hw h2
        rcases bit_rng hR with hb | hb
        · rw [hb, e0, if_neg (by decide), if_pos rfl]
          have e5 : (fBit σ).2 4 0 = nI (p2 + 1) := by rw [a5]; exact su_at σ 4 0 (nI (p2 + 1))
          have ih := al_ex f (fBit σ).2 (p2 + 1) hR.bit e5 (by omega) h3 (by omega)
          rw [ih]
          congr 1
          omega
        · rw [hb, e0, if_pos rfl, if_neg (by decide)]
          have h5 := wrong_in hR.1 hw' h2
          cases f with
          | zero => rfl
          | succ f =>
            unfold fAl
            rw [if_pos h5]
/-! ===== bits; the block's sums ===== -/
theorem sm32 : ∀ n, n < 32 → ((nI n &&& 31).toBitVec.smod 32).toNat = n := by decide +kernel
theorem tbN {x : Int32} {n : Nat} (h : n < 32) : (x >>> (nI n &&& 31) &&& nI 1) = if x.toBitVec.getLsbD n then nI 1 else nI 0 := by
  rw [pk_and _ 1 (by decide)]
  have e : (x >>> (nI n &&& 31)).toBitVec.toNat % 2 ^ 1 = if x.toBitVec.getLsbD n then 1 else 0 := by
    have e1 : (x >>> (nI n &&& 31)).toBitVec = x.toBitVec.sshiftRight n := by
      show x.toBitVec.sshiftRight ((nI n &&& 31).toBitVec.smod 32).toNat = _
      rw [sm32 n h]
    rw [e1]
    have e2 : (x.toBitVec.sshiftRight n).getLsbD 0 = x.toBitVec.getLsbD n := by
      rw [BitVec.getLsbD_sshiftRight]
      simp [h]
    have e3 : (x.toBitVec.sshiftRight n).toNat % 2 = if (x.toBitVec.sshiftRight n).getLsbD 0 then 1 else 0 := by
      show _ = if Nat.testBit _ 0 then 1 else 0
      rw [Nat.testBit_zero]
      by_cases h9 : (x.toBitVec.sshiftRight n).toNat % 2 = 1
      · simp [h9]
      · have : (x.toBitVec.sshiftRight n).toNat % 2 = 0 := by omega
        simp [this]
    rw [show (2:Nat) ^ 1 = 2 from rfl, e3, e2]
  rw [e]
  split <;> rfl
theorem or_bit {x : Int32} {a n : Nat} (ha : a < 32) (hn : n < 32) : (x ||| nI 1 <<< (nI a &&& 31)).toBitVec.getLsbD n = (x.toBitVec.getLsbD n || decide (n = a)) := by
  have e : (x ||| nI 1 <<< (nI a &&& 31)).toBitVec = x.toBitVec ||| (1#32 <<< a) := by
    show x.toBitVec ||| ((nI 1).toBitVec <<< ((nI a &&& 31).toBitVec.smod 32).toNat) = _
    rw [sm32 a ha]
    rfl
  rw [e, BitVec.getLsbD_or]
  congr 1
  rw [BitVec.getLsbD_shiftLeft, BitVec.getLsbD_one]
  by_cases h : n = a
  · subst h
    simp [hn]
  · simp [h, hn]
    omega
theorem toInt_div2 (x : Int32) : (x / nI 2).toInt = x.toInt.tdiv 2 := by
  have h : (x / nI 2).toInt = (x.toInt.tdiv (nI 2).toInt).bmod (2 ^ 32) := Int32.toInt_div x (nI 2)
  have h2 : (nI 2).toInt = 2 := by decide
  rw [h, h2]
  have := x.toInt_lt
  have := x.le_toInt
  have h3 : x.toInt.tdiv 2 < 2 ^ 31 ∧ - 2 ^ 31 ≤ x.toInt.tdiv 2 := by
    rcases Int.le_total 0 x.toInt with h | h
    · rw [Int.tdiv_eq_ediv_of_nonneg h]; omega
    · have : x.toInt.tdiv 2 = - ((-x.toInt).tdiv 2) := by rw [Int.neg_tdiv]; omega
      rw [this, Int.tdiv_eq_ediv_of_nonneg (by omega)]; omega
  rw [Int.bmod_def]
  omega
theorem rm2_toInt (x : Int32) : (rm2 x).toInt = x.toInt.tmod 2 := by
  unfold rm2
  rw [Int32.toInt_sub, Int32.toInt_mul, toInt_div2, show (nI 2).toInt = 2 by decide]
  have := x.toInt_lt
  have := x.le_toInt
  have h3 : x.toInt.tdiv 2 * 2 + x.toInt.tmod 2 = x.toInt := Int.tdiv_mul_add_tmod _ _
  have h4 : x.toInt.tmod 2 < 2 ∧ -2 < x.toInt.tmod 2 := by
    rcases Int.le_total 0 x.toInt with h | h
    · rw [Int.tmod_eq_emod_of_nonneg h]; omega
    · have : x.toInt.tmod 2 = - ((-x.toInt).tmod 2) := by rw [Int.neg_tmod]; omega
      rw [this, Int.tmod_eq_emod_of_nonneg (by omega)]; omega
  simp only [Int.bmod_def]
  omega
theorem rm2_0 (x : Int32) : rm2 x = 0 ↔ x.toInt % 2 = 0 := by
  have h1 : rm2 x = 0 ↔ (rm2 x).toInt = 0 := by
    rw [← Int32.toInt_inj]
    rfl
  rw [h1, rm2_toInt]
  rcases Int.le_total 0 x.toInt with h | h
  · rw [Int.tmod_eq_emod_of_nonneg h]
  · have : x.toInt.tmod 2 = - ((-x.toInt).tmod 2) := by rw [Int.neg_tmod]; omega
    rw [this, Int.tmod_eq_emod_of_nonneg (by omega)]; omega
theorem and1_0 (x : Int32) : x &&& nI 1 = 0 ↔ x.toInt % 2 = 0 := by
  rw [pk_and _ 1 (by decide)]
  have h : x.toInt = x.toBitVec.toInt := rfl
  rw [h, BitVec.toInt_eq_toNat_cond]
  have : x.toBitVec.toNat % 2 < 2 := Nat.mod_lt _ (by decide)
  constructor
  · intro h
    have h0 : x.toBitVec.toNat % 2 ^ 1 = 0 := (nI_eq (b := 0) (by omega) (by decide)).mp h
    split <;> omega
  · intro h
    have h0 : x.toBitVec.toNat % 2 ^ 1 = 0 := by split at h <;> omega
    rw [h0]
    rfl
theorem rm2_and (x : Int32) : x &&& nI 1 = 0 ↔ rm2 x = 0 := (and1_0 x).trans (rm2_0 x).symm
theorem sg_c {b : Int32} {f g : Nat → Int32} : ∀ n, (∀ i, i < n → f i = g i) → sg b f n = sg b g n
  | 0, _ => rfl
  | n + 1, h => by
    unfold sg
    rw [sg_c n (fun i hi => h i (by omega)), h n (by omega)]
theorem sg_z {b : Int32} {f : Nat → Int32} : ∀ n, (∀ i, i < n → f i = 0) → sg b f n = b
  | 0, _ => rfl
  | n + 1, h => by
    unfold sg
    rw [sg_z n (fun i hi => h i (by omega)), h n (by omega)]
    exact Int32.add_zero b
theorem sg_u {b v : Int32} {f g : Nat → Int32} {a : Nat} (h0 : f a = 0) (hv : g a = v) (hs : ∀ i, i ≠ a → g i = f i) : ∀ n, sg b g n = if a < n then sg b f n + v else sg b f n
  | 0 => rfl
  | n + 1 => by
    unfold sg
    rw [sg_u h0 hv hs n]
    by_cases h : n = a
    · subst h
      rw [if_neg (by omega), if_pos (by omega), h0, hv, Int32.add_zero]
    · rw [hs n h]
      by_cases h2 : a < n
      · rw [if_pos h2, if_pos (by omega), Int32.add_assoc, Int32.add_comm v, ← Int32.add_assoc]
      · rw [if_neg h2, if_neg (by omega)]
theorem cos_wv : ∀ u, u < 8 → ∀ x, x < 8 → cosT (8 * u + x) = fWv u x := by decide +kernel
/-- the block's factors, their total and its rows, as the reference has them -/
def BR (κ σ : Sg) : Prop := (∀ j, j < 64 → κ 8 j = σ 38 j) ∧ κ 7 2 = fAll σ ∧ ∀ v u, v < 8 → u < 8 → (κ 7 3).toBitVec.getLsbD v = false → σ 38 (8 * v + u) = 0
theorem mp_f {κ σ : Sg} (h : BR κ σ) {j : Nat} (hj : j < 64) : cMp κ 8 j = facP σ j := by
  unfold cMp facP
  by_cases e : κ 7 2 &&& nI 1 = 0
  · have e2 : rm2 (fAll σ) = 0 := by rw [← h.2.1]; exact (rm2_and _).mp e
    rw [if_pos e, if_pos e2]
    by_cases e3 : j = 63
    · subst e3
      rw [if_pos rfl, ← h.1 63 (by omega)]
      rfl
    · rw [if_neg e3, ← h.1 j hj]
      show su (su κ 8 63 _) 7 3 _ 8 j = _
      rw [su_k (by decide), su_j e3]
  · have e2 : ¬ rm2 (fAll σ) = 0 := by rw [← h.2.1]; exact fun z => e ((rm2_and _).mpr z)
    rw [if_neg e, if_neg e2]
    split
    · rename_i e3; rw [e3]; exact h.1 63 (by omega)
    · exact h.1 j hj
theorem mp_r {κ σ : Sg} (h : BR κ σ) {v u : Nat} (hv : v < 8) (hu : u < 8) (hb : (cMp κ 7 3).toBitVec.getLsbD v = false) : facP σ (8 * v + u) = 0 := by
  unfold cMp at hb
  by_cases e : κ 7 2 &&& nI 1 = 0
  · rw [if_pos e] at hb
    have hb : (κ 7 3 ||| nI 1 <<< (nI 7 &&& 31)).toBitVec.getLsbD v = false := hb
    rw [or_bit (by decide) (by omega)] at hb
    have h7 : v ≠ 7 := fun z => by subst z; simp at hb
    have hb2 : (κ 7 3).toBitVec.getLsbD v = false := by
      cases hh : (κ 7 3).toBitVec.getLsbD v
      · rfl
      · rw [hh] at hb; simp at hb
    unfold facP
    rw [if_neg (by omega)]
    exact h.2.2 v u hv hu hb2
  · rw [if_neg e] at hb
    have e2 : ¬ rm2 (fAll σ) = 0 := by rw [← h.2.1]; exact fun z => e ((rm2_and _).mpr z)
    unfold facP
    rw [if_neg e2]
    have := h.2.2 v u hv hu hb
    split
    · rename_i e3; rw [← e3]; exact this
    · exact this
theorem row_e {κ σ : Sg} (h : BR κ σ) {v x : Nat} (hv : v < 8) (hx : x < 8) : cRow (cMp κ) v x = rowV σ (8 * v + x) := by
  unfold cRow rowV
  rw [show (8 * v + x) / 8 = v by omega, show (8 * v + x) % 8 = x by omega]
  rw [sg_c 8 (fun u hu => show _ = facP σ (8 * v + u) * fWv u x by rw [mp_f h (by omega), cos_wv u hu x hx])]
theorem row_0 {κ σ : Sg} (h : BR κ σ) {v x : Nat} (hv : v < 8) (hx : x < 8) (hb : (cMp κ 7 3).toBitVec.getLsbD v = false) : rowV σ (8 * v + x) = 0 := by
  unfold rowV
  rw [show (8 * v + x) / 8 = v by omega, sg_z 8 (fun u hu => by rw [mp_r h hv hu hb]; exact Int32.zero_mul)]
  decide
theorem ac_e {κ σ : Sg} (h : BR κ σ) {j : Nat} (hj : j < 64) : ∀ n, n ≤ 8 → cAc (cMp κ) j n = sg (nI 16384) (fun v => rowV σ (8 * v + j % 8) * fWv v (j / 8)) n
  | 0, _ => rfl
  | n + 1, hn => by
    unfold cAc sg
    rw [ac_e h hj n (by omega), tbN (by omega)]
    by_cases hb : (cMp κ 7 3).toBitVec.getLsbD n = true
    · rw [hb, if_pos (by rfl), row_e h (by omega) (Nat.mod_lt _ (by decide)), cos_wv n (by omega) (j / 8) (by omega)]
    · have hb : (cMp κ 7 3).toBitVec.getLsbD n = false := by simpa using hb
      rw [hb, if_neg (by decide), row_0 h (by omega) (Nat.mod_lt _ (by decide)) hb, Int32.zero_mul, Int32.add_zero]
theorem mk_s {κ σ : Sg} (h : BR κ σ) {j : Nat} (hj : j < 64) : cMk κ 9 j = sumV σ (j % 8) (j / 8) >>> (nI 15 &&& 31) := by
  unfold cMk cMi
  rw [sa_at, if_pos hj, ac_e h hj 8 (Nat.le_refl _)]
  rfl
theorem mk_k {κ : Sg} {i j : Nat} (h7 : i ≠ 7) (h8 : i ≠ 8) (h9 : i ≠ 9) : cMk κ i j = κ i j := by
  unfold cMk cMi
  rw [sa_k h9]
  unfold cMp
  split
  · rw [su_k h7, su_k h8]
  · rfl
/-! ===== foretelling: one dot ===== -/
theorem hel_cl {x : Int32} {w : Nat} (h0 : 1 ≤ w) (hw : w < 2 ^ 31) : cl x (nI w) = nI (cLm x w) ∧ cLm x w < w := by
  obtain ⟨e, hlt⟩ := cLm_e (x := x) h0 hw
  refine ⟨?_, hlt⟩
  rw [← e]
  unfold cl hel
  have e1 : nI w - nI 1 = nI (w - 1) := pk_sub h0
  rw [e1]
  have hz : nI 0 = 0 := rfl
  rw [hz]
  by_cases h : 0 ≤ x
  · rw [if_pos h, if_pos h]
    obtain ⟨j, hj, rfl⟩ := nI_of (Int32.not_lt.mpr h)
    by_cases h2 : j < w
    · rw [if_pos (nI_lt h2 hw), if_pos (nI_le (by omega) (by omega))]
    · rw [if_neg (nI_nlt (by omega) hj), if_neg (nI_ge (by omega) hj)]
  · rw [if_neg h, if_neg h]
theorem fDot_e {σ : Sg} {A B p k : Nat} (hD : okD σ A B) (hp : p < 3) (x y : Int32) : fDot σ k (nI p) x y = σ k (atN A B p + (wdN A p * cLm y (wdN B p) + cLm x (wdN A p))) ∧ wdN A p * cLm y (wdN B p) + cLm x (wdN A p) < wdN A p * wdN B p := by
  obtain ⟨c1, c2, h1, h2, e1, e2, e3, h3⟩ := dIx_n hD hp x y
  have hA := wd_r (A := A) (p := p) ⟨hD.2.2.1, hD.2.2.2.1⟩
  have hB := wd_r (A := B) (p := p) ⟨hD.2.2.2.2.1, hD.2.2.2.2.2⟩
  obtain ⟨f1, f2⟩ := hel_cl (x := x) (w := wdN A p) (by omega) (by omega)
  obtain ⟨f3, f4⟩ := hel_cl (x := y) (w := wdN B p) (by omega) (by omega)
  have g1 : cLm x (wdN A p) = c1 := (nI_eq (by omega) (by omega)).mp (f1.symm.trans e1)
  have g2 : cLm y (wdN B p) = c2 := (nI_eq (by omega) (by omega)).mp (f3.symm.trans e2)
  rw [g1, g2]
  refine ⟨?_, ix_lt h1 h2⟩
  unfold fDot
  rw [e3, nI_clamp (by omega), Nat.add_assoc]
theorem hf_i (x : Int32) : (hf x).toInt = x.toInt / 2 := by
  unfold hf
  rw [pk_shr x _ 1 (by decide), Int.shiftRight_eq_div_pow]
  rfl
theorem i2x {x : Nat} {a : Int32} (hx : x < 100) (ha : -2000 ≤ a.toInt ∧ a.toInt ≤ 2000) : (nI 2 * nI x + a).toInt = 2 * x + a.toInt := by
  rw [pk_mul, Int32.toInt_add, nI_toInt (by omega), Int.bmod_def]
  omega
theorem hf_k {x x0 : Nat} {a : Int32} (hx : x < 100) (h0 : x0 ≤ x) (ha : -2000 ≤ a.toInt ∧ a.toInt ≤ 2000) : hf (nI 2 * nI x0 + a) + nI (x - x0) = hf (nI 2 * nI x + a) ∧ hf (nI 2 * nI x0 + a + nI 1) + nI (x - x0) = (if rm2 (nI 2 * nI x + a) = 0 then hf (nI 2 * nI x + a) else hf (nI 2 * nI x + a) + nI 1) := by
  have e0 := i2x (x := x0) (a := a) (by omega) ha
  have e1 := i2x (x := x) (a := a) hx ha
  have e2 : (nI 2 * nI x0 + a + nI 1).toInt = 2 * x0 + a.toInt + 1 := by
    rw [Int32.toInt_add, e0, nI_toInt (by decide), Int.bmod_def]
    omega
  constructor
  · apply Int32.toInt_inj.mp
    rw [Int32.toInt_add, hf_i, hf_i, e0, e1, nI_toInt (by omega), Int.bmod_def]
    omega
  · apply Int32.toInt_inj.mp
    by_cases h : rm2 (nI 2 * nI x + a) = 0
    · rw [if_pos h]
      rw [rm2_0, e1] at h
      rw [Int32.toInt_add, hf_i, hf_i, e1, e2, nI_toInt (by omega), Int.bmod_def]
      omega
    · rw [if_neg h]
      rw [rm2_0, e1] at h
      rw [Int32.toInt_add, Int32.toInt_add, hf_i, hf_i, e1, e2, nI_toInt (by omega), nI_toInt (by decide), Int.bmod_def, Int.bmod_def]
      omega
theorem sh2N {n : Nat} (h : n < 2 ^ 31) : nI n >>> (nI 2 &&& 31) = nI (n / 4) := pk_shrN h _ 2 (by decide)
theorem sh1N {n : Nat} (h : n < 2 ^ 31) : nI n >>> (nI 1 &&& 31) = nI (n / 2) := pk_shrN h _ 1 (by decide)
abbrev b255 (x y : Int32) : Prop := ∃ n, n ≤ 255 ∧ x = nI n ∧ y = nI n
theorem told {σ : Sg} {A B p k x x0 y : Nat} {D : Nat → Int32} {a d : Int32} (hD : okD σ A B) (hp : p < 3) (hS : ∀ i, i < wdN A p * wdN B p → b255 (D i) (σ k (atN A B p + i)))
    (hx : x < wdN A p) (hy : y < wdN B p) (h0 : x0 ≤ x) (ha : -2000 ≤ a.toInt ∧ a.toInt ≤ 2000) (hd : -2000 ≤ d.toInt ∧ d.toInt ≤ 2000) :
    b255 (cTl D (wdN A p) (wdN B p) (nI 2 * nI x0 + a) (nI 2 * nI y + d) (x - x0)) (fBt σ k (nI p) (nI 2 * nI x + a) (nI 2 * nI y + d)) := by
  have hA := wd_r (A := A) (p := p) ⟨hD.2.2.1, hD.2.2.2.1⟩
  have hB := wd_r (A := B) (p := p) ⟨hD.2.2.2.2.1, hD.2.2.2.2.2⟩
  have dt : ∀ u v : Int32, b255 (D (wdN A p * cLm v (wdN B p) + cLm u (wdN A p))) (fDot σ k (nI p) u v) := fun u v => by
    obtain ⟨e, hlt⟩ := fDot_e (k := k) hD hp u v
    rw [e]
    exact hS _ hlt
  obtain ⟨kx1, kx2⟩ := hf_k (x := x) (x0 := x0) (a := a) (by omega) h0 ha
  obtain ⟨ky1, ky2⟩ := hf_k (x := y) (x0 := y) (a := d) (by omega) (Nat.le_refl _) hd
  rw [Nat.sub_self, show nI 0 = 0 from rfl, Int32.add_zero] at ky1 ky2
  unfold cTl fBt
  rw [kx1, kx2, ky2]
  generalize nI 2 * nI x + a = hx' at *
  generalize nI 2 * nI y + d = hy' at *
  show b255 _ (if rm2 hx' = 0 ∧ rm2 hy' = 0 then fDot σ k (nI p) (hf hx') (hf hy') else if rm2 hy' = 0 then hf (fDot σ k (nI p) (hf hx') (hf hy') + fDot σ k (nI p) (hf hx' + nI 1) (hf hy') + nI 1) else if rm2 hx' = 0 then hf (fDot σ k (nI p) (hf hx') (hf hy') + fDot σ k (nI p) (hf hx') (hf hy' + nI 1) + nI 1) else (fDot σ k (nI p) (hf hx') (hf hy') + fDot σ k (nI p) (hf hx' + nI 1) (hf hy') + fDot σ k (nI p) (hf hx') (hf hy' + nI 1) + fDot σ k (nI p) (hf hx' + nI 1) (hf hy' + nI 1) + nI 2) >>> (nI 2 &&& 31))
  obtain ⟨n1, l1, a1, b1⟩ := dt (hf hx') (hf hy')
  obtain ⟨n2, l2, a2, b2⟩ := dt (hf hx' + nI 1) (hf hy')
  obtain ⟨n3, l3, a3, b3⟩ := dt (hf hx') (hf hy' + nI 1)
  obtain ⟨n4, l4, a4, b4⟩ := dt (hf hx' + nI 1) (hf hy' + nI 1)
  by_cases ex : rm2 hx' = 0
  · by_cases ey : rm2 hy' = 0
    · rw [if_pos ex, if_pos ey, if_pos ⟨ex, ey⟩, a1, b1, nI_add, nI_add, nI_add, nI_add, sh2N (by omega)]
      exact ⟨n1, l1, congrArg nI (by omega), rfl⟩
    · rw [if_pos ex, if_neg ey, if_neg (fun z => ey z.2), if_neg ey, if_pos ex, a1, a3, b1, b3]
      simp only [nI_add]
      rw [sh2N (by omega)]
      unfold hf
      rw [sh1N (by omega)]
      exact ⟨(n1 + n3 + 1) / 2, by omega, congrArg nI (by omega), rfl⟩
  · by_cases ey : rm2 hy' = 0
    · rw [if_neg ex, if_pos ey, if_neg (fun z => ex z.1), if_pos ey, a1, a2, b1, b2]
      simp only [nI_add]
      rw [sh2N (by omega)]
      unfold hf
      rw [sh1N (by omega)]
      exact ⟨(n1 + n2 + 1) / 2, by omega, congrArg nI (by omega), rfl⟩
    · rw [if_neg ex, if_neg ey, if_neg (fun z => ex z.1), if_neg ey, if_neg ex, a1, a2, a3, a4, b1, b2, b3, b4, nI_add, nI_add, nI_add, nI_add, sh2N (by omega)]
      exact ⟨_, by omega, rfl, rfl⟩
