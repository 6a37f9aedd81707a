/-! ===== passing over ===== -/
theorem ps_2 {A B s m : Nat} {a : Int32} {σ : Sg} (h2 : σ 34 0 = nI 2) : fPs A B s m a σ = if m ≤ A * B - s then (nI 1, fPl A B m s σ) else (nI 0, fW σ a) := by
  unfold fPs
  by_cases h : m ≤ A * B - s
  · rw [if_neg (Nat.not_lt.mpr h), if_pos h, if_neg]
    intro z
    rw [h2] at z
    exact absurd z.1 (by decide)
  · rw [if_pos (Nat.lt_of_not_le h), if_neg h]
theorem ps_3 {A B s m : Nat} {a : Int32} {σ : Sg} (hA : 1 ≤ A) (hs : s < A * B) (h3 : σ 34 0 = nI 3) : fPs A B s m a σ = if m ≤ mostN A B s false (¬ σ 32 0 = 0) then (nI 1, fPl A B m s σ) else (nI 0, fW σ a) := by
  have e := ps_most (n := m) (inn := σ 32 0) hA hs
  unfold fPs
  by_cases h : m ≤ mostN A B s false (¬ σ 32 0 = 0)
  · obtain ⟨h1, h2⟩ := e.mpr h
    rw [if_neg (Nat.not_lt.mpr h1), if_pos h, if_neg (fun z => h2 z.2)]
  · rw [if_neg h]
    by_cases h1 : m ≤ A * B - s
    · rw [if_neg (Nat.not_lt.mpr h1), if_pos ⟨h3, Classical.byContradiction (fun z => h (e.mp ⟨h1, z⟩))⟩]
    · rw [if_pos (Nat.lt_of_not_le h1)]
def PR (A B s i : Nat) (g : Gh) (n : Int32) (κ τ : Sg) : Prop := SX A B g κ τ ∧ TRel κ τ ∧ (∀ j, j < 8 → j ≠ 5 → κ 4 j = τ (20 + j) 0) ∧ κ 4 5 + nI i = τ 25 0 ∧ HD κ τ ∧ (κ (idF (gN g)) 0 = τ 34 0 ∧ κ (idF (gN g)) 1 = n ∧ κ (idF (gN g)) 2 = τ 40 0 ∧ κ (idF (gN g)) 3 + nI i = τ 41 0) ∧ DR A B (gN g) 9 (fun p j => sqN A p j < s + i) κ τ ∧ ((i ≠ 0 ∨ ¬ s % A = 0) → DC κ τ ∧ VR κ τ ∧ WY κ τ)
theorem PR.of {A B s : Nat} {g : Gh} {n : Int32} {κ σ : Sg} (h : BT A B s g n κ σ) : PR A B s 0 g n κ σ := by
  obtain ⟨h1, h2, h3, h4, ⟨f0, f1, f2, f3⟩, h6, h7⟩ := h
  exact ⟨h1, h2, fun j hj _ => h3 j hj, (Int32.add_zero _).trans (h3 5 (by decide)), h4, ⟨f0, f1, f2, (Int32.add_zero _).trans f3⟩, h6, fun z => h7 (z.resolve_left (fun y => y rfl))⟩
theorem PR.to {A B s m : Nat} {g : Gh} {n : Int32} {κ σ : Sg} (h : PR A B s m g n κ σ) : BT A B (s + m) g n (su (su κ (idF (gN g)) 3 (κ (idF (gN g)) 3 + nI m)) 4 5 (su κ (idF (gN g)) 3 (κ (idF (gN g)) 3 + nI m) 4 5 + nI m)) σ := by
  obtain ⟨h1, h2, h3, h4, h5, ⟨f0, f1, f2, f3⟩, h6, h7⟩ := h
  have e4 : su κ (idF (gN g)) 3 (κ (idF (gN g)) 3 + nI m) 4 5 = κ 4 5 := su_k (fun z => nF (by decide) z.symm)
  rw [e4]
  have ka : kp [idF (gN g)] κ (su κ (idF (gN g)) 3 (κ (idF (gN g)) 3 + nI m)) := kp.su (by simp)
  have kb : kp [4] (su κ (idF (gN g)) 3 (κ (idF (gN g)) 3 + nI m)) (su (su κ (idF (gN g)) 3 (κ (idF (gN g)) 3 + nI m)) 4 5 (κ 4 5 + nI m)) := kp.su (by decide)
  have nc : ∀ j, j < 20 → j ∉ [idF (gN g)] := fun j hj => by simp only [List.mem_singleton]; exact fun z => nF hj z.symm
  have nD : ∀ q p, p < 3 → idD q p ∉ [idF (gN g)] := fun q p hp => by simp only [List.mem_singleton]; unfold idD idF; omega
  have hK : kp (SI g) κ (su (su κ (idF (gN g)) 3 (κ (idF (gN g)) 3 + nI m)) 4 5 (κ 4 5 + nI m)) := (ka.mono (fun k hk => by simp at hk ⊢; omega)).trans (kb.mono (fun k hk => by simp at hk ⊢; omega))
  refine ⟨h1.ck hK, (h2.ck ka (nc 1 (by decide)) (nc 2 (by decide))).ck kb (by decide) (by decide), fun j hj => ?_, (h5.ck ka (nc 6 (by decide))).ck kb (by decide), ⟨?_, ?_, ?_, ?_⟩, (h6.ck ka (fun p hp => nD _ _ hp)).ck kb (fun p hp => by simp; exact nid (by decide)), fun z => ?_⟩
  · by_cases e : j = 5
    · subst e
      rw [su_at]
      exact h4
    · rw [su_j e, ka 4 (nc 4 (by decide))]
      exact h3 j hj e
  · rw [kb _ (by simp; exact nF (by decide)), su_j (by decide)]; exact f0
  · rw [kb _ (by simp; exact nF (by decide)), su_j (by decide)]; exact f1
  · rw [kb _ (by simp; exact nF (by decide)), su_j (by decide)]; exact f2
  · rw [kb _ (by simp; exact nF (by decide)), su_at]; exact f3
  · have hz : m ≠ 0 ∨ ¬ s % A = 0 := by
      by_cases e : m = 0
      · subst e
        exact Or.inr z
      · exact Or.inl e
    obtain ⟨a, b, c⟩ := h7 hz
    refine ⟨(a.ck ka (nc 10 (by decide))).ck kb (by decide), (b.ck ka (nc 11 (by decide)) (nc 12 (by decide))).ck kb (by decide) (by decide), fun y => ?_⟩
    have e6 : su (su κ (idF (gN g)) 3 (κ (idF (gN g)) 3 + nI m)) 4 5 (κ 4 5 + nI m) 6 9 = κ 6 9 := (kb 6 (by decide) 9).trans (ka 6 (nc 6 (by decide)) 9)
    rw [e6]
    exact c y
/-- what the reference has foretold a passed square from -/
def fPe (A k : Nat) (σ : Sg) : Sg := su (fPb (fPa A k σ)) 32 0 (nI 0)
theorem fPk_e {A B k : Nat} {σ : Sg} : fPk A B k σ = su (su (rD (fT (fPe A k σ) A B k)) 25 0 (rD (fT (fPe A k σ) A B k) 25 0 + nI 1)) 41 0 (rD (fT (fPe A k σ) A B k) 41 0 + nI 1) := rfl
theorem kp_pa (A k : Nat) (σ : Sg) : kp [29, 33] σ (fPa A k σ) := by
  unfold fPa
  split
  · exact ((kp_rD σ).mono (by decide)).trans ((kp_rV (rD σ)).mono (by decide))
  · exact kp.refl _ _
theorem kp_pb (σ : Sg) : kp [28, 29, 30, 31] σ (fPb σ) := by
  unfold fPb
  split
  · exact (((kp_zv σ).mono (by decide)).trans ((kp.su (by decide)).trans (kp.su (by decide)))).trans ((kp_rV _).mono (by decide))
  · exact kp.refl _ _
theorem kp_pe (A k : Nat) (σ : Sg) : kp [28, 29, 30, 31, 32, 33] σ (fPe A k σ) := ((kp_pa A k σ).mono (by decide)).trans (((kp_pb _).mono (by decide)).trans (kp.su (by decide)))
theorem PR.step {A B s i W : Nat} {g : Gh} {n : Int32} {κ τ : Sg} (h : PR A B s i g n κ τ) (hs : s + i < A * B) (h34 : (τ 34 0 = nI 2 ∧ W = 0) ∨ (τ 34 0 = nI 3 ∧ W ≠ 0 ∧ W < 4 ∧ κ 6 9 = nI W ∧ ¬ (s + i) % A = 0)) : PR A B s (i + 1) g n (kFs A B (s + i) W g κ) (fPk A B (s + i) τ) ∧ kp (SI g) κ (kFs A B (s + i) W g κ) ∧ fPk A B (s + i) τ 34 0 = τ 34 0 ∧ kFs A B (s + i) W g κ 6 9 = nI W := by
  obtain ⟨h1, h2, h3, h4, h5, ⟨f0, f1, f2, f3⟩, h6, h7⟩ := h
  have kf := kp_fgK W κ
  have kt := kp_kFs A B (s + i) W g κ
  have nD : ∀ q p, idD q p ∉ [6, 10, 11, 12] := fun q p => by simp; exact ⟨nid (by decide), nid (by decide), nid (by decide), nid (by decide)⟩
  have nt : ∀ m, m < 20 → m ∉ [idD (gN g) 0, idD (gN g) 1, idD (gN g) 2] := fun m hm => by simp; exact ⟨fun z => nid hm z.symm, fun z => nid hm z.symm, fun z => nid hm z.symm⟩
  have nF1 : idF (gN g) ∉ [6, 10, 11, 12] := by simp; exact ⟨nF (by decide), nF (by decide), nF (by decide), nF (by decide)⟩
  have nF2 : idF (gN g) ∉ [idD (gN g) 0, idD (gN g) 1, idD (gN g) 2] := by simp; unfold idF idD; omega
  have hK : kp (SI g) κ (kFs A B (s + i) W g κ) := (kf.mono (fun k hk => by simp at hk ⊢; omega)).trans (kt.mono (fun k hk => by simp at hk ⊢; omega))
  have e1 := kp_pe A (s + i) τ
  have e2 := kp_fT (fPe A (s + i) τ) A B (s + i)
  have e3 := kp_rD (fT (fPe A (s + i) τ) A B (s + i))
  have e4 : kp [25, 41] (rD (fT (fPe A (s + i) τ) A B (s + i))) (fPk A B (s + i) τ) := (kp.su (by decide)).trans (kp.su (by decide))
  have eA : kp [9, 25, 28, 29, 30, 31, 32, 33, 41] τ (fPk A B (s + i) τ) := (e1.mono (by decide)).trans ((e2.mono (by decide)).trans ((e3.mono (by decide)).trans (e4.mono (by decide))))
  have eL : ∀ k, k ∉ [9, 25, 33, 41] → ∀ j, fPk A B (s + i) τ k j = fPe A (s + i) τ k j := fun k hk j => by
    simp only [List.mem_cons, List.not_mem_nil, or_false, not_or] at hk
    rw [e4 k (by simp; omega), e3 k (by simp; omega), e2 k (by simp; omega)]
  have c34 : τ 34 0 = nI 2 ∨ τ 34 0 = nI 3 := h34.elim (fun z => Or.inl z.1) (fun z => Or.inr z.1)
  have p34 : fPe A (s + i) τ 34 0 = τ 34 0 := e1 34 (by decide) 0
  have p32 : fPe A (s + i) τ 32 0 = 0 := su_at _ _ _ _
  have hW4 : W < 4 := h34.elim (fun z => by omega) (fun z => z.2.2.1)
  have hO := h5.2.2.1
  have h341 : ¬ τ 34 0 = nI 1 := by
    rcases c34 with e | e <;> rw [e] <;> decide
  have hSXe : SX A B g κ (fPe A (s + i) τ) := h1.cs (e1.mono (by decide))
  have hOe : SO (fPe A (s + i) τ) := hO.cs e1 (by decide) (by decide) (by decide)
  -- flags and vectors
  have key : (fPe A (s + i) τ 30 0 = ahW W ∧ fPe A (s + i) τ 31 0 = bkW W) ∧ (¬ ahW W = 0 → ∀ j, j < 2 → fgK W κ 11 j = fPe A (s + i) τ 28 j) ∧ (¬ bkW W = 0 → ∀ j, j < 2 → fgK W κ 12 j = fPe A (s + i) τ 28 (2 + j)) ∧ (∀ j, j < 4 → -1100 ≤ (fPe A (s + i) τ 28 j).toInt ∧ (fPe A (s + i) τ 28 j).toInt ≤ 1100) ∧ (∀ R, okV R → vr τ = nI R → VG R (fPe A (s + i) τ) ∧ (∀ j, j < 2 → fgK W κ 11 j = fPe A (s + i) τ 29 j) ∧ ∀ j, j < 2 → fgK W κ 12 j = fPe A (s + i) τ 29 (2 + j)) ∧ (τ 34 0 = nI 3 → ∃ f b, f < 2 ∧ b < 2 ∧ 2 * f + b ≠ 0 ∧ W = 2 * f + b ∧ fPe A (s + i) τ 30 0 = nI f ∧ fPe A (s + i) τ 31 0 = nI b ∧ (f = 1 → ∀ j, j < 2 → fPe A (s + i) τ 28 j = fPe A (s + i) τ 29 j) ∧ (b = 1 → ∀ j, j < 2 → fPe A (s + i) τ 28 (2 + j) = fPe A (s + i) τ 29 (2 + j))) := by
    rcases h34 with ⟨g2, rfl⟩ | ⟨g3, gW, gW4, g69, gm⟩
    · have q34 : fPa A (s + i) τ 34 0 = nI 2 := ((kp_pa A (s + i) τ) 34 (by decide) 0).trans g2
      have eb : fPb (fPa A (s + i) τ) = rV (su (su (fZv (fPa A (s + i) τ) 4) 30 0 (nI 1)) 31 0 (nI 0)) := if_pos q34
      have kv := kp_rV (su (su (fZv (fPa A (s + i) τ) 4) 30 0 (nI 1)) 31 0 (nI 0))
      have z28 : ∀ j, j < 4 → fPe A (s + i) τ 28 j = nI 0 := fun j hj => by
        unfold fPe
        rw [su_k (by decide), eb, kv 28 (by decide), su_k (by decide), su_k (by decide)]
        exact fZv_0' hj
      have z29 : ∀ j, j < 4 → fPe A (s + i) τ 29 j = nI 0 := fun j hj => by
        unfold fPe
        rw [su_k (by decide), eb]
        exact rV_29 hj
      have i0 : (nI 0).toInt = 0 := by decide
      refine ⟨⟨?_, ?_⟩, fun _ j hj => ?_, fun _ j hj => ?_, fun j hj => ?_, fun R hR hv => ⟨fun j hj => ?_, fun j hj => ?_, fun j hj => ?_⟩, fun z => ?_⟩
      · unfold fPe
        rw [su_k (by decide), eb, kv 30 (by decide), su_k (by decide), su_at]
        rfl
      · unfold fPe
        rw [su_k (by decide), eb, kv 31 (by decide), su_at]
        rfl
      · rw [(fgK_v hj).1, if_pos rfl, z28 j (by omega)]
      · rw [(fgK_v hj).2, if_pos rfl, z28 (2 + j) (by omega)]
      · rw [z28 j hj, i0]
        decide
      · rw [z29 j hj, i0]
        have := hR.1
        omega
      · rw [(fgK_v hj).1, if_pos rfl, z29 j (by omega)]
      · rw [(fgK_v hj).2, if_pos rfl, z29 (2 + j) (by omega)]
      · rw [g2] at z
        exact absurd z (by decide)
    · have ea : fPa A (s + i) τ = τ := if_neg gm
      have q34 : ¬ τ 34 0 = nI 2 := by rw [g3]; decide
      have eb : fPb (fPa A (s + i) τ) = τ := by rw [ea]; exact if_neg q34
      have ee : ∀ k, k ≠ 32 → ∀ j, fPe A (s + i) τ k j = τ k j := fun k hk j => by
        unfold fPe
        rw [su_k hk, eb]
      have hz : i ≠ 0 ∨ ¬ s % A = 0 := by
        by_cases e : i = 0
        · subst e
          exact Or.inr gm
        · exact Or.inl e
      obtain ⟨hdc, hvr, hwy⟩ := h7 hz
      rcases hwy g3 with ⟨y1, y2⟩ | ⟨y1, f, b, y2, y3, y4, y5, y6, y7, y8, y9, y10⟩
      · rw [g69] at y2
        exact absurd ((nI_eq (b := 0) (by omega) (by decide)).mp y2) gW
      · have eW : W = 2 * f + b := (nI_eq (by omega) (by omega)).mp (g69.symm.trans y5)
        refine ⟨⟨?_, ?_⟩, fun z j hj => ?_, fun z j hj => ?_, fun j hj => ?_, fun R hR hv => ⟨fun j hj => ?_, fun j hj => ?_, fun j hj => ?_⟩, fun _ => ⟨f, b, y2, y3, y4, eW, ?_, ?_, fun q j hj => ?_, fun q j hj => ?_⟩⟩
        · rw [ee 30 (by decide), y6]
          unfold ahW
          rcases (show f = 0 ∨ f = 1 by omega) with rfl | rfl
          · rw [if_pos (by omega)]
          · rw [if_neg (by omega)]
        · rw [ee 31 (by decide), y7]
          unfold bkW
          rcases (show b = 0 ∨ b = 1 by omega) with rfl | rfl
          · rw [if_neg (by omega)]
          · rw [if_pos (by omega)]
        · have hf1 : f = 1 := by
            unfold ahW at z
            have : W ≠ 1 := fun e => z (by rw [if_pos e]; rfl)
            omega
          obtain ⟨R, r1, r2, r3⟩ := h5.2.2.2 h341
          rw [(fgK_v hj).1, if_neg gW, ee 28 (by decide), y8 hf1 j hj]
          exact (hvr R r1 r3).2.1 j hj
        · have hb1 : b = 1 := by
            unfold bkW at z
            have : W % 2 = 1 := Classical.byContradiction (fun e => z (by rw [if_neg e]; rfl))
            omega
          obtain ⟨R, r1, r2, r3⟩ := h5.2.2.2 h341
          rw [(fgK_v hj).2, if_neg gW, ee 28 (by decide), y9 hb1 j hj]
          exact (hvr R r1 r3).2.2 j hj
        · rw [ee 28 (by decide)]
          exact y10 j hj
        · rw [ee 29 (by decide)]
          exact (hvr R hR hv).1 j hj
        · rw [(fgK_v hj).1, if_neg gW, ee 29 (by decide)]
          exact (hvr R hR hv).2.1 j hj
        · rw [(fgK_v hj).2, if_neg gW, ee 29 (by decide)]
          exact (hvr R hR hv).2.2 j hj
        · rw [ee 30 (by decide)]; exact y6
        · rw [ee 31 (by decide)]; exact y7
        · rw [ee 28 (by decide), ee 29 (by decide)]; exact y8 q j hj
        · rw [ee 28 (by decide), ee 29 (by decide)]; exact y9 q j hj
  obtain ⟨⟨k30, k31⟩, kf1, kb1, kr, kv, kw⟩ := key
  have hD := tell_DR (s := s + i) (S := fun p j => sqN A p j < s + i) hSXe hOe (h5.1.trans p34.symm) (by rw [p34]; exact c34) hW4 (by
    rw [p34]
    rcases h34 with ⟨a, b⟩ | ⟨a, b, -⟩
    · exact Or.inl ⟨a, by rw [b]⟩
    · exact Or.inr ⟨a, b⟩) k30 k31 kf1 kb1 kr (h6.cs e1 (by decide))
  have eF : ∀ j, kFs A B (s + i) W g κ (idF (gN g)) j = κ (idF (gN g)) j := fun j => (kt _ nF2 j).trans (kf _ nF1 j)
  have e6 : ∀ j, j ≠ 9 → kFs A B (s + i) W g κ 6 j = κ 6 j := fun j hj => (kt 6 (nt 6 (by decide)) j).trans (fgK_6 hj)
  have e69 : kFs A B (s + i) W g κ 6 9 = nI W := (kt 6 (nt 6 (by decide)) 9).trans (su_at _ _ _ _)
  have e44 : ∀ j, kFs A B (s + i) W g κ 4 j = κ 4 j := fun j => (kt 4 (nt 4 (by decide)) j).trans (kf 4 (by decide) j)
  have b25 : fPk A B (s + i) τ 25 0 = τ 25 0 + nI 1 := by
    rw [fPk_e, su_k (by decide), su_at, e3 25 (by decide), e2 25 (by decide), e1 25 (by decide)]
  have b41 : fPk A B (s + i) τ 41 0 = τ 41 0 + nI 1 := by
    rw [fPk_e, su_at, e3 41 (by decide), e2 41 (by decide), e1 41 (by decide)]
  have inc : ∀ x y : Int32, x + nI i = y → x + nI (i + 1) = y + nI 1 := fun x y e => by
    rw [← e, ← nI_add, Int32.add_assoc]
  refine ⟨⟨(h1.ck hK).cs (eA.mono (by decide)), ((h2.ck kf (by decide) (by decide)).ck kt (nt 1 (by decide)) (nt 2 (by decide))).cs eA (by decide) (by decide) (by decide) (by decide), fun j hj hj5 => ?_, ?_, ?_, ⟨?_, ?_, ?_, ?_⟩, ?_, fun _ => ⟨fun p hp => ⟨128, by decide, ?_, ?_⟩, fun R hR hv => ?_, fun z => ?_⟩⟩, hK, eA 34 (by decide) 0, e69⟩
  · rw [e44, eA (20 + j) (by simp; omega)]
    exact h3 j hj hj5
  · rw [e44, b25]
    exact inc _ _ h4
  · obtain ⟨a, b, c, d⟩ := h5
    refine HD.cs ⟨(e6 6 (by decide)).trans a, (e6 7 (by decide)).trans b, c, fun z => ?_⟩ eA (by decide) (by decide) (by decide) (by decide) (by decide)
    obtain ⟨R, x, y, w⟩ := d z
    exact ⟨R, x, (e6 8 (by decide)).trans y, w⟩
  · rw [eF, eA 34 (by decide)]; exact f0
  · rw [eF]; exact f1
  · rw [eF, eA 40 (by decide)]; exact f2
  · rw [eF, b41]
    exact inc _ _ f3
  · refine DR.mono (((hD.cs e3 (by decide)).cs e4 (by decide))) (fun p j _ _ hz => ?_)
    have hz : sqN A p j < s + (i + 1) := hz
    rcases Nat.lt_or_ge (sqN A p j) (s + i) with q | q
    · exact Or.inl q
    · exact Or.inr (by omega)
  · rw [kt 10 (nt 10 (by decide))]
    exact fgK_10 hp
  · rw [e4 33 (by decide)]
    exact rD_33 hp
  · have hv2 : vr τ = nI R := (vr_cs eA (by decide)).symm.trans hv
    obtain ⟨v1, v2, v3⟩ := kv R hR hv2
    have q29 : ∀ j, fPk A B (s + i) τ 29 j = fPe A (s + i) τ 29 j := eL 29 (by decide)
    refine ⟨fun j hj => by rw [q29]; exact v1 j hj, fun j hj => ?_, fun j hj => ?_⟩
    · rw [kt 11 (nt 11 (by decide)), q29]
      exact v2 j hj
    · rw [kt 12 (nt 12 (by decide)), q29]
      exact v3 j hj
  · rw [eA 34 (by decide)] at z
    obtain ⟨f, b, y2, y3, y4, y5, y6, y7, y8, y9⟩ := kw z
    refine Or.inr ⟨?_, f, b, y2, y3, y4, by rw [e69, y5], ?_, ?_, fun q j hj => ?_, fun q j hj => ?_, fun j hj => ?_⟩
    · rw [eL 32 (by decide)]; exact p32
    · rw [eL 30 (by decide)]; exact y6
    · rw [eL 31 (by decide)]; exact y7
    · rw [eL 28 (by decide), eL 29 (by decide)]; exact y8 q j hj
    · rw [eL 28 (by decide), eL 29 (by decide)]; exact y9 q j hj
    · rw [eL 28 (by decide)]; exact kr j hj
theorem u_fail {τ : Sg} {M : Nat} (hR : okR τ) (hw : τ 6 0 = -1) (hM : M < 2 ^ 30) (h : 0 ≤ (uE (nI M) (τ 4 0) (fU 22 0 τ)).2 6 0) : (0 ≤ (fU 22 0 τ).2 6 0 ∧ (uE (nI M) (τ 4 0) (fU 22 0 τ)).2 = (fU 22 0 τ).2) ∨ ((fU 22 0 τ).2 6 0 = -1 ∧ (∃ b, (fU 22 0 τ).1 = nI b ∧ M < b ∧ b ≤ 2097150) ∧ (uE (nI M) (τ 4 0) (fU 22 0 τ)).2 = su (fU 22 0 τ).2 6 0 (τ 4 0)) := by
  by_cases h1 : 0 ≤ (fU 22 0 τ).2 6 0
  · exact Or.inl ⟨h1, uE_w h1⟩
  · have h1' := u_w hR hw h1
    obtain ⟨b, e1, e2⟩ := u_max 22 0 τ hR (by rw [hw]; decide) rfl (by decide) h1
    by_cases h2 : (fU 22 0 τ).1 ≤ nI M
    · rw [uE_ok h1 h2] at h
      exact absurd h h1
    · exact Or.inr ⟨h1', ⟨b, e1, Nat.lt_of_not_le (fun z => h2 (by rw [e1]; exact nI_le z (by omega))), e2⟩, uE_bad h1' h2⟩
theorem u_ok {τ : Sg} {M : Nat} (hR : okR τ) (hw : τ 6 0 = -1) (hM : M < 2 ^ 30) (h : (uE (nI M) (τ 4 0) (fU 22 0 τ)).2 6 0 = -1) : (uE (nI M) (τ 4 0) (fU 22 0 τ)).2 = (fU 22 0 τ).2 ∧ (fU 22 0 τ).2 6 0 = -1 ∧ ∃ n, (fU 22 0 τ).1 = nI n ∧ n ≤ M := by
  have h0 : ¬ 0 ≤ (uE (nI M) (τ 4 0) (fU 22 0 τ)).2 6 0 := by rw [h]; decide
  by_cases h1 : 0 ≤ (fU 22 0 τ).2 6 0
  · rw [uE_w h1] at h0
    exact absurd h1 h0
  · have h1' := u_w hR hw h1
    obtain ⟨b, e1, e2⟩ := u_max 22 0 τ hR (by rw [hw]; decide) rfl (by decide) h1
    by_cases h2 : (fU 22 0 τ).1 ≤ nI M
    · refine ⟨uE_ok h1 h2, h1', b, e1, ?_⟩
      rw [e1] at h2
      exact (nI_leI (by omega) (by omega)).mp h2
    · rw [uE_bad h1' h2, su_at] at h0
      exact absurd (at_0 hR) h0
noncomputable def fPo (A B s : Nat) (σ : Sg) : Int32 × Sg := if 0 ≤ (fU 22 0 σ).2 6 0 then (nI 0, (fU 22 0 σ).2) else fPs A B s (fU 22 0 σ).1.toNatClampNeg (σ 4 0) (fU 22 0 σ).2
/-- how passOver ends -/
def EV (A B s : Nat) (g : Gh) (n : Int32) (κ σ : Sg) (o : Out) (g' : Gh) (κ' : Sg) : Prop :=
  kp (SI g) κ κ' ∧ (((fPo A B s σ).2 6 0 = -1 ∧ ¬ (fPo A B s σ).1 = 0 ∧ g' = g ∧ ∃ m, (fU 22 0 σ).1 = nI m ∧ s + m ≤ A * B ∧ o = .inl (some (.int (nI m))) ∧ BT A B (s + m) g n κ' (fPo A B s σ).2) ∨ (0 ≤ (fPo A B s σ).2 6 0 ∧ (fPo A B s σ).1 = 0 ∧ o = .inr ISE ∧ g' = gx g ∧ κ' 1 3 = (fPo A B s σ).2 6 0 ∧ TB κ' (fPo A B s σ).2))
theorem BT.read {A B s : Nat} {g : Gh} {n : Int32} {κ σ σ' : Sg} (h : BT A B s g n κ σ) (e : tk σ σ') (r : okR σ') (hw : σ' 6 0 = -1) : BT A B s g n (su κ 1 2 (σ' 4 0)) σ' := by
  obtain ⟨h1, h2, h3, h4, h5, h6, h7⟩ := h
  have e' := tk_kp e
  have k : kp [1] κ (su κ 1 2 (σ' 4 0)) := kp.su (by decide)
  refine ⟨(h1.ck (k.mono (by simp))).cs (e'.mono (by decide)), h2.next e r hw, (h3.ck k (by decide)).cs e' (by decide), (h4.ck k (by decide)).cs e' (by decide) (by decide) (by decide) (by decide) (by decide), (h5.ck k (by simp; exact nF (by decide))).cs e' (by decide) (by decide) (by decide), (h6.ck k (fun p hp => by simp; exact nid (by decide))).cs e' (by decide), fun z => ?_⟩
  obtain ⟨a, b, c⟩ := h7 z
  refine ⟨(a.ck k (by decide)).cs e' (by decide), (b.ck k (by decide) (by decide)).cs e' (by decide) (by decide), ?_⟩
  unfold WY at c ⊢
  rw [e' 34 (by decide), e' 32 (by decide), e' 30 (by decide), e' 31 (by decide), k 6 (by decide)]
  simp only [e' 28 (by decide), e' 29 (by decide)]
  exact c
theorem most_le {A B s : Nat} {inn : Prop} [Decidable inn] (hA : A ≤ 4) : mostN A B s false inn ≤ 4 := by
  unfold mostN
  rw [if_neg (by decide)]
  split <;> omega
theorem most_row {A B s m : Nat} {inn : Prop} [Decidable inn] (hA : 1 ≤ A) (h : m ≤ mostN A B s false inn) : ∀ i, i < m → ¬ (s + i) % A = 0 := by
  intro i hi
  unfold mostN at h
  rw [if_neg (by decide)] at h
  by_cases e : s % A = 0 ∨ inn
  · rw [if_pos e] at h
    omega
  · rw [if_neg e] at h
    have hsd := Nat.div_add_mod s A
    have hml := Nat.mod_lt s (show A > 0 by omega)
    have e1 : ¬ s % A = 0 := fun z => e (Or.inl z)
    have e2 : (s + i) % A = s % A + i := by
      have : s + i = (s % A + i) + A * (s / A) := by omega
      rw [this, Nat.add_mul_mod_self_left, Nat.mod_eq_of_lt (by omega)]
    omega
