/-! ===== one more picture; longer dots ===== -/
theorem gP_A {g : Gh} {a i : Nat} (h : al g i) : gA (gP g a) i = gA g i := if_neg (by unfold al at h; omega)
theorem gP_A2 {g : Gh} {a r : Nat} : gA (gP g a) (47 + 9 * gC g + r) = a + nOf r := by
  show (if 47 + 9 * gC g ≤ 47 + 9 * gC g + r then a + nOf (47 + 9 * gC g + r - (47 + 9 * gC g)) else _) = _
  rw [if_pos (by omega)]
  congr 2
  omega
theorem gP_pt {g : Gh} {a i j : Nat} (h5 : i ≠ 5) : ptr (gP g a) i j = ptr g i j := by
  unfold ptr
  split
  · unfold pt1
    split <;> first | rfl | exact absurd rfl h5
  · rfl
def NP (h h1 : Mem) : Prop := mN h1 = mN h + 9 ∧ mU h1 = mU h + 21 ∧
  (∀ b, mK h1 b = if b = mN h + 8 then 11 else if b = mN h + 7 then 11 else if b = mN h + 6 then 3 else if b = mN h + 5 then 11 else if b = mN h + 4 then 3 else if b = mN h + 3 then 11 else if b = mN h + 2 then 3 else if b = mN h + 1 then 15 else if b = mN h then 2 else mK h b) ∧
  (∀ b, mL h1 b = if b = mN h + 8 then 4 else if b = mN h + 7 then 0 else if b = mN h + 6 then 0 else if b = mN h + 5 then 0 else if b = mN h + 4 then 0 else if b = mN h + 3 then 0 else if b = mN h + 2 then 0 else if b = mN h + 1 then 3 else if b = mN h then 0 else mL h b) ∧
  (∀ b j, mI h1 b j = if b = mN h + 8 then 0 else if b = mN h + 6 ∧ j = 0 then nI 8 else if b = mN h + 7 then 0 else if b = mN h + 6 then 0 else if b = mN h + 4 ∧ j = 0 then nI 8 else if b = mN h + 5 then 0 else if b = mN h + 4 then 0 else if b = mN h + 2 ∧ j = 0 then nI 16 else if b = mN h + 3 then 0 else if b = mN h + 2 then 0 else if b = mN h + 1 then 0 else if b = mN h then 0 else mI h b j) ∧
  (∀ b j, mR h1 b j = if b = mN h ∧ j = 1 then some (mN h + 8) else if b = mN h + 8 then none else if b = mN h ∧ j = 0 then some (mN h + 1) else if b = mN h + 1 ∧ j = 2 then some (mN h + 6) else if b = mN h + 6 ∧ j = 3 then some (mN h + 7) else if b = mN h + 7 then none else if b = mN h + 6 then none else if b = mN h + 1 ∧ j = 1 then some (mN h + 4) else if b = mN h + 4 ∧ j = 3 then some (mN h + 5) else if b = mN h + 5 then none else if b = mN h + 4 then none else if b = mN h + 1 ∧ j = 0 then some (mN h + 2) else if b = mN h + 2 ∧ j = 3 then some (mN h + 3) else if b = mN h + 3 then none else if b = mN h + 2 then none else if b = mN h + 1 then none else if b = mN h then none else mR h b j) ∧
  (∀ b, b < mN h → mK h1 b = mK h b ∧ mL h1 b = mL h b ∧ (∀ j, mI h1 b j = mI h b j) ∧ (∀ j, mR h1 b j = mR h b j) ∧ ∀ j, mJ h1 b j = mJ h b j)
theorem NP_new (h : Mem) : NP h (newP h) := ⟨newP_N h, newP_U h, newP_K h, newP_L h, newP_I h, newP_R h, fun _ hb => newP_b h hb⟩
theorem CF.pic {s0 : State} {c : Cx} {hB h h1 : Mem} {g : Gh} {κ : Sg} (hC : CF s0 c hB h g κ) (hc : gC g < 20) (hNP : NP h h1) : CF s0 c hB (sR h1 (gA g 5) (gC g) (some (mN h))) (gP g (mN h)) (kP κ (47 + 9 * gC g)) := by
  obtain ⟨nN, nU, nK, nL, nI9, nR, nb⟩ := hNP
  obtain ⟨⟨⟨hW, hG, hinj, hcel, hmm⟩, hb1, hb2⟩, hf⟩ := hC
  have h5 : gA g 5 < mN h := (hcel 5 (Or.inl (by decide))).1.2.2
  have hfr : frc c h (sR h1 (gA g 5) (gC g) (some (mN h))) := fun b hb => by
    have hb9 : b < mN h := by omega
    obtain ⟨a1, a2, a3, a4, a5⟩ := nb b hb9
    refine ⟨a1, a2, a3, fun j => ?_, a5⟩
    rw [mR_sR, if_neg]
    · exact a4 j
    · rintro ⟨e, -⟩
      have := (hcel 5 (Or.inl (by decide))).1
      rw [← e] at this
      have h8 := this.1
      have h9 := this.2.1
      omega
  have hnew : ∀ i, al (gP g (mN h)) i → al g i ∨ ∃ r, r < 9 ∧ i = 47 + 9 * gC g + r := fun i hi => by
    rcases hi with hi | hi
    · exact Or.inl (Or.inl hi)
    · by_cases h9 : i < 47 + 9 * gC g
      · exact Or.inl (Or.inr ⟨hi.1, h9⟩)
      · refine Or.inr ⟨i - (47 + 9 * gC g), ?_, by omega⟩
        have : i < 47 + 9 * (gC g + 1) := hi.2
        omega
  refine ⟨⟨⟨hW.fr hfr, ⟨hG.1, by show gC g + 1 ≤ 20; omega⟩, ?_, ?_, hmm.1, ?_⟩, ?_, ?_⟩, hf.trans hfr⟩
  · intro i j hi hj e
    rcases hnew i hi with hi | ⟨r, hr, rfl⟩ <;> rcases hnew j hj with hj | ⟨r2, hr2, rfl⟩
    · rw [gP_A hi, gP_A hj] at e
      exact hinj i j hi hj e
    · rw [gP_A hi, gP_A2] at e
      have := (hcel i hi).1.2.2
      omega
    · rw [gP_A2, gP_A hj] at e
      have := (hcel j hj).1.2.2
      omega
    · rw [gP_A2, gP_A2] at e
      rw [nOf_inj r hr r2 hr2 (by omega)]
  · intro i hi
    rcases hnew i hi with hi | ⟨r, hr, rfl⟩
    · obtain ⟨b1, b2, b3, b4, b5⟩ := hcel i hi
      obtain ⟨a1, a2, a3, a4, a5⟩ := nb _ b1.2.2
      have hlt : i < 47 + 9 * gC g := by unfold al at hi; omega
      unfold cel
      rw [gP_A hi]
      refine ⟨⟨b1.1, b1.2.1, by rw [mN_sR, nN]; have := b1.2.2; omega⟩, a1.trans b2, ?_, fun j => ?_, fun j => ?_⟩
      · rw [mL_sR, a2, b3]
        unfold lnI
        have e : gL (gP g (mN h)) i = gL g i := if_neg (by omega)
        rw [e]
      · rw [mI_sR, a3, b4]
        exact (if_neg (by omega)).symm
      · rw [mR_sR]
        by_cases e5 : i = 5
        · subst e5
          by_cases ej : j = gC g
          · rw [if_pos ⟨rfl, ej⟩, ej]
            show _ = ((if gC g < gC g + 1 then some (idP (3 + gC g)) else none) : Option Nat).map _
            rw [if_pos (by omega)]
            show some (mN h) = some (gA (gP g (mN h)) (idP (3 + gC g)))
            have e1 : idP (3 + gC g) = 47 + 9 * gC g + 0 := by unfold idP; omega
            rw [e1, gP_A2]
            rfl
          · rw [if_neg (fun z => ej z.2), a4, b5]
            show ((if j < gC g then some (idP (3 + j)) else none) : Option Nat).map _ = ((if j < gC g + 1 then some (idP (3 + j)) else none) : Option Nat).map _
            by_cases h9 : j < gC g
            · rw [if_pos h9, if_pos (by omega)]
              show some (gA g (idP (3 + j))) = some (gA (gP g (mN h)) (idP (3 + j)))
              rw [gP_A (al_P (by omega))]
            · rw [if_neg h9, if_neg (by omega)]
              rfl
        · rw [if_neg (fun z => e5 (hinj i 5 hi (Or.inl (by decide)) z.1)), a4, b5, gP_pt e5]
          cases hp : ptr g i j with
          | none => rfl
          | some t =>
            show some (gA g t) = some (gA (gP g (mN h)) t)
            rw [gP_A (pt_in hG hi hp)]
    · have hne : ∀ k, mN h + k ≠ gA g 5 := fun k => by omega
      unfold cel
      rw [gP_A2]
      have hk := nOf_lt r
      refine ⟨⟨by omega, by omega, by rw [mN_sR, nN]; omega⟩, ?_, ?_, fun j => ?_, fun j => ?_⟩
      · rw [mK_sR, nK]
        unfold kdI
        rw [if_neg (show ¬ 47 + 9 * gC g + r < 20 by omega), show (47 + 9 * gC g + r - 20) % 9 = r by omega]
        rcases (show r = 0 ∨ r = 1 ∨ r = 2 ∨ r = 3 ∨ r = 4 ∨ r = 5 ∨ r = 6 ∨ r = 7 ∨ r = 8 by omega) with rfl | rfl | rfl | rfl | rfl | rfl | rfl | rfl | rfl <;> simp [nOf]
      · rw [mL_sR, nL]
        unfold lnI
        have e : gL (gP g (mN h)) (47 + 9 * gC g + r) = 0 := if_pos (by omega)
        rw [if_neg (show ¬ 47 + 9 * gC g + r < 20 by omega), show (47 + 9 * gC g + r - 20) % 9 = r by omega, e]
        rcases (show r = 0 ∨ r = 1 ∨ r = 2 ∨ r = 3 ∨ r = 4 ∨ r = 5 ∨ r = 6 ∨ r = 7 ∨ r = 8 by omega) with rfl | rfl | rfl | rfl | rfl | rfl | rfl | rfl | rfl <;> simp [nOf]
      · rw [mI_sR, nI9]
        show _ = (if 47 + 9 * gC g ≤ 47 + 9 * gC g + r then (if 47 + 9 * gC g + r = 47 + 9 * gC g + 3 ∧ j = 0 then nI 16 else if 47 + 9 * gC g + r = 47 + 9 * gC g + 4 ∧ j = 0 then nI 8 else if 47 + 9 * gC g + r = 47 + 9 * gC g + 5 ∧ j = 0 then nI 8 else 0) else κ (47 + 9 * gC g + r) j)
        rw [if_pos (show 47 + 9 * gC g ≤ 47 + 9 * gC g + r by omega)]
        rcases (show r = 0 ∨ r = 1 ∨ r = 2 ∨ r = 3 ∨ r = 4 ∨ r = 5 ∨ r = 6 ∨ r = 7 ∨ r = 8 by omega) with rfl | rfl | rfl | rfl | rfl | rfl | rfl | rfl | rfl <;> simp [nOf]
      · rw [mR_sR, if_neg (fun z => hne _ z.1), nR]
        have eP : ptr (gP g (mN h)) (47 + 9 * gC g + r) j = pt2 (47 + 9 * gC g + r) j := if_neg (by omega)
        rw [eP]
        unfold pt2
        rw [show (47 + 9 * gC g + r - 20) % 9 = r by omega]
        have eA : ∀ r k, r + k < 100 → gA (gP g (mN h)) (47 + 9 * gC g + r + k) = mN h + nOf (r + k) := fun r k _ => by rw [Nat.add_assoc]; exact gP_A2
        rcases (show r = 0 ∨ r = 1 ∨ r = 2 ∨ r = 3 ∨ r = 4 ∨ r = 5 ∨ r = 6 ∨ r = 7 ∨ r = 8 by omega) with rfl | rfl | rfl | rfl | rfl | rfl | rfl | rfl | rfl
        · rcases j with _ | _ | j
          · simp [nOf]; rw [eA 0 1 (by decide)]; simp [nOf]
          · simp [nOf]; rw [eA 0 2 (by decide)]; simp [nOf]
          · simp [nOf]
        · rcases j with _ | _ | _ | j
          · simp [nOf]; rw [eA 1 2 (by decide)]; simp [nOf]
          · simp [nOf]
            have := eA 1 3 (by decide)
            have e9 : 47 + 9 * gC g + 1 + 2 + 1 = 47 + 9 * gC g + 1 + 3 := by omega
            rw [e9, this]; simp [nOf]
          · simp [nOf]
            have := eA 1 4 (by decide)
            have e9 : 47 + 9 * gC g + 1 + 2 + 2 = 47 + 9 * gC g + 1 + 4 := by omega
            rw [e9, this]; simp [nOf]
          · simp [nOf]
        · simp [nOf]
        · rcases j with _ | _ | _ | _ | j
          · simp [nOf]
          · simp [nOf]
          · simp [nOf]
          · simp [nOf]; rw [eA 3 3 (by decide)]; simp [nOf]
          · simp [nOf]
        · rcases j with _ | _ | _ | _ | j
          · simp [nOf]
          · simp [nOf]
          · simp [nOf]
          · simp [nOf]; rw [eA 4 3 (by decide)]; simp [nOf]
          · simp [nOf]
        · rcases j with _ | _ | _ | _ | j
          · simp [nOf]
          · simp [nOf]
          · simp [nOf]
          · simp [nOf]; rw [eA 5 3 (by decide)]; simp [nOf]
          · simp [nOf]
        · simp [nOf]
        · simp [nOf]
        · simp [nOf]
  · rw [mN_sR, nN]
    omega
  · have := gP_N (a := mN h) hc
    show mN h1 + ptN (gP g (mN h)) ≤ c.2.2.1 + gX g
    omega
  · have := gP_U (a := mN h) hc
    show mU h1 + ptU (gP g (mN h)) ≤ c.2.2.2 + 6 * gX g
    omega

