/-! ===== between calls: the class and the reference ===== -/
def RL (g : Gh) (κ σ : Sg) : Prop := (okG g ∧ CI g κ ∧ ∃ A0 B0, okAB A0 B0 ∧ κ 3 2 = nI A0 ∧ κ 3 3 = nI B0) ∧ (∃ tb, κ 1 1 = nI tb ∧ σ 2 0 = nI tb ∧ tb ≤ 32000 ∧ ∀ i, i < (tb + 7) / 8 → κ 2 i = σ 1 i) ∧ κ 1 3 = σ 6 0 ∧ TA κ σ ∧ okO σ ∧ b01s σ ∧ ∃ sh, σ 22 0 = nI sh ∧ sh ≤ 2000 ∧ (0 < sh → ∃ A B, okAB A B ∧ okD σ A B ∧ ∀ k, k < 20 → k < sh → KO A B g k κ σ)
def kRd (κ : Sg) (nb : Nat) : Sg := su (su (su (su (fFl κ 4 (nI 0) 8) 3 7 (nI 0)) 1 1 (nI (8 * nb))) 1 2 (nI 0)) 1 3 (-1)
theorem r0_f (σ : Sg) (nb : Nat) : kp [0, 2, 3, 4, 5, 6, 12, 13, 20, 21, 22, 23, 24, 25, 26, 27] σ (fR0 σ nb) := by
  unfold fR0
  refine kp.trans ?_ (((((((((((((kp.su (by decide)).trans (kp.su (by decide))).trans (kp.su (by decide))).trans (kp.su (by decide))).trans (kp.su (by decide))).trans (kp.su (by decide))).trans (kp.su (by decide))).trans (kp.su (by decide))).trans (kp.su (by decide))).trans (kp.su (by decide))).trans (kp.su (by decide))).trans (kp.su (by decide))).trans (kp.su (by decide)) |>.trans (kp.su (by decide)))
  unfold fRb
  exact (kp.su (by decide)).trans (kp.sa (by decide))
theorem r0_v (σ : Sg) (nb : Nat) : fR0 σ nb 2 0 = nI 0 ∧ fR0 σ nb 4 0 = nI 0 ∧ fR0 σ nb 5 0 = nI (8 * nb) ∧ fR0 σ nb 6 0 = -1 ∧ fR0 σ nb 12 0 = nI 0 ∧ fR0 σ nb 13 0 = nI 0 ∧ (∀ j, j < 8 → fR0 σ nb (20 + j) 0 = nI 0) ∧ ∀ j, fR0 σ nb 3 j = fRb σ (8 * nb) 3 j := by
  unfold fR0
  refine ⟨?_, ?_, ?_, ?_, ?_, ?_, fun j hj => ?_, fun j => ?_⟩
  · simp [su]
  · simp [su]
  · simp [su]
  · simp [su]
  · simp [su]
  · simp [su]
  · rcases (show j = 0 ∨ j = 1 ∨ j = 2 ∨ j = 3 ∨ j = 4 ∨ j = 5 ∨ j = 6 ∨ j = 7 by omega) with rfl | rfl | rfl | rfl | rfl | rfl | rfl | rfl <;> simp [su]
  · simp [su]
theorem RL.start {g : Gh} {κ σ : Sg} {tb : Nat} (h : RL g κ σ) (h2 : σ 2 0 = nI tb) (htb : tb ≤ 32000) : TRel (kRd κ ((tb + 7) / 8)) (fR0 σ ((tb + 7) / 8)) ∧ TA (kRd κ ((tb + 7) / 8)) (fR0 σ ((tb + 7) / 8)) ∧ kp [1, 3, 4] κ (kRd κ ((tb + 7) / 8)) := by
  obtain ⟨h1, ⟨tb', a1, a2, a3, a4⟩, h3, h4, h5, h6, h7⟩ := h
  have et : tb' = tb := (nI_eq (by omega) (by omega)).mp (a2.symm.trans h2)
  subst et
  obtain ⟨v1, v2, v3, v4, v5, v6, v7, v8⟩ := r0_v σ ((tb' + 7) / 8)
  have k2 : ∀ j, kRd κ ((tb' + 7) / 8) 2 j = κ 2 j := fun j => by
    unfold kRd
    rw [su_k (by decide), su_k (by decide), su_k (by decide), su_k (by decide)]
    exact sa_k (by decide)
  refine ⟨⟨okR_r0 h6 (by omega), ?_, ?_, v4, fun e j he he2 hj => ?_, su_at _ _ _ _⟩, fun j hj => ?_, ?_⟩
  · rw [v2]
    unfold kRd
    rw [su_j (by decide), su_at]
  · rw [v3]
    unfold kRd
    rw [su_j (by decide), su_j (by decide), su_at]
  · rw [v3] at he
    have he' : 8 * ((tb' + 7) / 8) = e := (nI_eq (by omega) (by omega)).mp he
    rw [v8]
    unfold fRb
    rw [sa_at, if_pos (by omega), and1b]
    unfold bitv
    rw [k2, a4 (j / 8) (by omega)]
  · rw [v7 j hj]
    unfold kRd
    rw [su_k (by decide), su_k (by decide), su_k (by decide), su_k (by decide)]
    show sa κ 4 _ 4 j = _
    rw [sa_at, if_pos hj]
  · unfold kRd
    exact (((kp.trans (kp.sa (by decide)) (kp.su (by decide))).trans (kp.su (by decide))).trans (kp.su (by decide))).trans (kp.su (by decide))
/-- nothing was shown: what was kept doesn't matter -/
theorem RL.end0 {g : Gh} {κ σ : Sg} {A0 B0 : Nat} (hG : okG g) (hC : CI g κ) (hA : okAB A0 B0) (h2 : κ 3 2 = nI A0) (h3 : κ 3 3 = nI B0) (h13 : κ 1 3 = σ 6 0) (hTA : TA κ σ) (hO : okO σ) (hb : b01s σ) (h22 : σ 22 0 = nI 0) (h20 : σ 2 0 = nI 0) : RL g (su κ 1 1 (nI 0)) σ := by
  have k : kp [1] κ (su κ 1 1 (nI 0)) := kp.su (by decide)
  refine ⟨⟨hG, fun q p hq hp => ⟨(hC q p hq hp).1, (k _ (by simp; unfold idL; omega) 0).trans (hC q p hq hp).2⟩, A0, B0, hA, h2, h3⟩, ⟨0, su_at _ _ _ _, h20, by omega, fun i hi => by omega⟩, (su_j (by decide)).trans h13, hTA.ck k (by decide), hO, hb, 0, h22, by omega, fun z => absurd z (by decide)⟩
theorem RL.end1 {A B : Nat} {g : Gh} {κ σ : Sg} (hO : OX A B g κ σ) (h13 : κ 1 3 = σ 6 0) (hTA : TA κ σ) (hb : b01s σ) (h20 : σ 2 0 = nI 0) : RL g (su κ 1 1 (nI 0)) σ := by
  have k : kp [1] κ (su κ 1 1 (nI 0)) := kp.su (by decide)
  obtain ⟨⟨o1, o2, o3, o4, o5, o6, o7, o8⟩, o9, o10, sh, s1, s2, s3⟩ := hO.ck (k.mono (T := SI g) (by simp))
  exact ⟨⟨o1, o3, A, B, o2, o4, o5⟩, ⟨0, su_at _ _ _ _, h20, by omega, fun i hi => by omega⟩, (su_j (by decide)).trans h13, hTA.ck k (by decide), o7, hb, sh, s1, s2, fun _ => ⟨A, B, o2, o6, s3⟩⟩
/-- the size is known: nothing is kept or leant on yet -/
theorem OX.start {A B : Nat} {g : Gh} {κ σ : Sg} (hG : okG g) (hA : okAB A B) (hC : CI g κ) (h2 : κ 3 2 = nI A) (h3 : κ 3 3 = nI B) (h7 : κ 3 7 = nI 0) (hD : okD σ A B) (hO : okO σ) (h12 : σ 12 0 = nI 0) (h13 : σ 13 0 = nI 0) (h22 : σ 22 0 = nI 0) : OX A B g κ σ :=
  ⟨⟨hG, hA, hC, h2, h3, hD, hO, 0, by decide, h7, ⟨fun _ => by decide, fun _ => h12⟩, ⟨fun _ => by decide, fun _ => h13⟩⟩, fun z => absurd h12 z, fun z => absurd h13 z, 0, h22, by decide, fun k _ hk => by omega⟩
theorem b01_kp {S : List Nat} {σ σ' : Sg} (h : b01s σ) (e : kp S σ σ') (h3 : 3 ∉ S) : b01s σ' := fun j hj => by
  rw [e 3 h3]
  exact h j hj
theorem OX.fin {A B k : Nat} {g g' : Gh} {κ κ' σ : Sg} (hO : OX A B g κ σ) (hB : TB κ σ) (h13 : κ 1 3 = σ 6 0) (hb : b01s σ) (h20 : σ 2 0 = nI 0) (hk : σ 22 0 = nI k) (hk2 : k < 2000) (h : (κ 3 7 ≤ 0 ∧ g' = g ∧ κ' = κ) ∨ (0 < κ 3 7 ∧ shP A B (gT g) k g κ g' κ')) : RL g' (su κ' 1 1 (nI 0)) (fFin A B σ) ∧ κ' 1 1 = κ 1 1 ∧ κ' 4 2 = fFin A B σ 22 0 ∧ (∀ i, i < 13 → gA g' i = gA g i) ∧ gX g' = gX g := by
  obtain ⟨L, l1, l2, l3, l4⟩ := hO.1.2.2.2.2.2.2.2
  rcases h with ⟨h1, h2, h3⟩ | ⟨h1, h2⟩
  · subst h2
    subst h3
    have h12 : σ 12 0 = 0 := by
      refine l3.mpr (Nat.lt_of_not_le (fun z => ?_))
      rw [l2] at h1
      exact nI_nle (by omega) (by omega) h1
    have e : fFin A B σ = σ := if_pos h12
    rw [e]
    exact ⟨RL.end1 hO h13 hB.1 hb h20, rfl, hB.1 2 (by decide), fun _ _ => rfl, rfl⟩
  · have h12 : ¬ σ 12 0 = 0 := fun z => by
      have := l3.mp z
      have e0 : L = 0 := by omega
      rw [l2, e0] at h1
      exact absurd h1 (by decide)
    have e : fFin A B σ = fSh σ A B 10 k (σ 14 0) (σ 15 0) (σ 16 0) (σ 17 0) := by
      unfold fFin fLs
      rw [if_neg h12, hk, nI_clamp (by omega)]
    rw [e]
    have hG := hO.1.1
    have hT := hO.2.1 h12
    obtain ⟨x, -, z⟩ := hO.show0 hB.1 hk hk2 hG.1.2.1 hT.1 (hT.2.2 0 (by decide)) (hT.2.2 1 (by decide)) (hT.2.2 2 (by decide)) (hT.2.2 3 (by decide)) h2
    obtain ⟨⟨c1, c2, ⟨c3, c4, c5, c6⟩, c7⟩, c8, c9, c10⟩ := shP_f hG hO.1.2.2.1 h2
    have es := kp_sh3 σ A B 10 k (σ 14 0) (σ 15 0) (σ 16 0) (σ 17 0)
    refine ⟨RL.end1 x ?_ z (b01_kp hb es (by decide)) ((es 2 (by decide) 0).trans h20), c8 1 1 (by omega) (by omega), z 2 (by decide), shP_A h2, c6⟩
    rw [c8 1 3 (by omega) (by omega), es 6 (by decide)]
    exact h13
