/-! ===== the parts of the class: its cells by number ===== -/
abbrev Cx : Type := Nat × Nat × Nat × Nat
/-- places, lengths, now, latest, older, how many are kept, how much was thrown -/
abbrev Gh : Type := (Nat → Nat) × (Nat → Nat) × Nat × Nat × Nat × Nat × Nat
def gA (g : Gh) : Nat → Nat := g.1
def gL (g : Gh) : Nat → Nat := g.2.1
def gN (g : Gh) : Nat := g.2.2.1
def gT (g : Gh) : Nat := g.2.2.2.1
def gO (g : Gh) : Nat := g.2.2.2.2.1
def gC (g : Gh) : Nat := g.2.2.2.2.2.1
def gX (g : Gh) : Nat := g.2.2.2.2.2.2
/-- something was thrown -/
def gx (g : Gh) : Gh := (gA g, gL g, gN g, gT g, gO g, gC g, gX g + 1)
def kdI (i : Nat) : Nat := if i < 20 then (match i with
  | 0 => 7 | 1 => 6 | 2 => 12 | 3 => 4 | 4 => 11 | 5 => 14 | 6 => 5 | 7 => 1 | 8 => 11 | 9 => 11 | 10 => 11 | 11 => 11 | 12 => 11 | _ => 0)
  else (match (i - 20) % 9 with
  | 0 => 2 | 1 => 15 | 2 => 11 | 3 => 3 | 4 => 3 | 5 => 3 | _ => 11)
def lnI (g : Gh) (i : Nat) : Nat := if i < 20 then (match i with
  | 2 => 4000 | 4 => 8 | 5 => 20 | 8 => 64 | 9 => 64 | 10 => 3 | 11 => 2 | 12 => 2 | _ => 0)
  else (match (i - 20) % 9 with
  | 1 => 3 | 2 => 4 | 6 => gL g i | 7 => gL g i | 8 => gL g i | _ => 0)
def idP (q : Nat) : Nat := 20 + 9 * q
def idA (q : Nat) : Nat := 21 + 9 * q
def idF (q : Nat) : Nat := 22 + 9 * q
def idL (q p : Nat) : Nat := 23 + 9 * q + p
def idD (q p : Nat) : Nat := 26 + 9 * q + p
def pt1 (g : Gh) (i j : Nat) : Option Nat := match i with
  | 0 => (match j with | 0 => some 1 | 1 => some 3 | 2 => some 6 | _ => none)
  | 1 => (match j with | 0 => some 2 | _ => none)
  | 3 => (match j with | 0 => some 4 | 1 => some 5 | 4 => some (idP (gN g)) | 5 => some (idP (gT g)) | 6 => some (idP (gO g)) | _ => none)
  | 5 => if j < gC g then some (idP (3 + j)) else none
  | 6 => (match j with | 0 => some 1 | 1 => some 3 | 2 => some 7 | 3 => some 10 | 4 => some 11 | 5 => some 12 | _ => none)
  | 7 => (match j with | 0 => some 8 | 1 => some 9 | _ => none)
  | _ => none
def pt2 (i j : Nat) : Option Nat := match (i - 20) % 9 with
  | 0 => (match j with | 0 => some (i + 1) | 1 => some (i + 2) | _ => none)
  | 1 => if j < 3 then some (i + 2 + j) else none
  | 3 => (match j with | 3 => some (i + 3) | _ => none)
  | 4 => (match j with | 3 => some (i + 3) | _ => none)
  | 5 => (match j with | 3 => some (i + 3) | _ => none)
  | _ => none
def ptr (g : Gh) (i j : Nat) : Option Nat := if i < 20 then pt1 g i j else pt2 i j
abbrev al (g : Gh) (i : Nat) : Prop := i < 13 ∨ (20 ≤ i ∧ i < 47 + 9 * gC g)
theorem kd_P (q : Nat) : kdI (idP q) = 2 := by
  unfold kdI idP
  rw [if_neg (by omega), show (20 + 9 * q - 20) % 9 = 0 by omega]
  rfl
theorem kd_A (q : Nat) : kdI (idA q) = 15 := by
  unfold kdI idA
  rw [if_neg (by omega), show (21 + 9 * q - 20) % 9 = 1 by omega]
  rfl
theorem kd_F (q : Nat) : kdI (idF q) = 11 := by
  unfold kdI idF
  rw [if_neg (by omega), show (22 + 9 * q - 20) % 9 = 2 by omega]
  rfl
theorem kd_L (q : Nat) {p : Nat} (hp : p < 3) : kdI (idL q p) = 3 := by
  unfold kdI idL
  rw [if_neg (by omega), show (23 + 9 * q + p - 20) % 9 = 3 + p by omega]
  rcases (show p = 0 ∨ p = 1 ∨ p = 2 by omega) with rfl | rfl | rfl <;> rfl
theorem kd_D (q : Nat) {p : Nat} (hp : p < 3) : kdI (idD q p) = 11 := by
  unfold kdI idD
  rw [if_neg (by omega), show (26 + 9 * q + p - 20) % 9 = 6 + p by omega]
  rcases (show p = 0 ∨ p = 1 ∨ p = 2 by omega) with rfl | rfl | rfl <;> rfl
theorem ln_A (g : Gh) (q : Nat) : lnI g (idA q) = 3 := by
  unfold lnI idA
  rw [if_neg (by omega), show (21 + 9 * q - 20) % 9 = 1 by omega]
  rfl
theorem ln_F (g : Gh) (q : Nat) : lnI g (idF q) = 4 := by
  unfold lnI idF
  rw [if_neg (by omega), show (22 + 9 * q - 20) % 9 = 2 by omega]
  rfl
theorem ln_D (g : Gh) (q : Nat) {p : Nat} (hp : p < 3) : lnI g (idD q p) = gL g (idD q p) := by
  unfold lnI idD
  rw [if_neg (by omega), show (26 + 9 * q + p - 20) % 9 = 6 + p by omega]
  rcases (show p = 0 ∨ p = 1 ∨ p = 2 by omega) with rfl | rfl | rfl <;> rfl
theorem pt_P0 (g : Gh) (q : Nat) : ptr g (idP q) 0 = some (idA q) := by
  unfold ptr idP
  rw [if_neg (by omega)]
  unfold pt2
  rw [show (20 + 9 * q - 20) % 9 = 0 by omega]
  exact congrArg some (by unfold idA; omega)
theorem pt_P1 (g : Gh) (q : Nat) : ptr g (idP q) 1 = some (idF q) := by
  unfold ptr idP
  rw [if_neg (by omega)]
  unfold pt2
  rw [show (20 + 9 * q - 20) % 9 = 0 by omega]
  exact congrArg some (by unfold idF; omega)
theorem pt_A (g : Gh) (q : Nat) {j : Nat} (hj : j < 3) : ptr g (idA q) j = some (idL q j) := by
  unfold ptr idA
  rw [if_neg (by omega)]
  unfold pt2
  rw [show (21 + 9 * q - 20) % 9 = 1 by omega]
  show (if j < 3 then some (21 + 9 * q + 2 + j) else none) = _
  rw [if_pos hj]
  exact congrArg some (by unfold idL; omega)
theorem pt_L (g : Gh) (q : Nat) {p : Nat} (hp : p < 3) : ptr g (idL q p) 3 = some (idD q p) := by
  unfold ptr idL
  rw [if_neg (by omega)]
  unfold pt2
  rw [show (23 + 9 * q + p - 20) % 9 = 3 + p by omega]
  have e : 23 + 9 * q + p + 3 = idD q p := by unfold idD; omega
  rcases (show p = 0 ∨ p = 1 ∨ p = 2 by omega) with rfl | rfl | rfl <;> exact congrArg some e
theorem al_P {g : Gh} {q : Nat} (h : q < 3 + gC g) : al g (idP q) := Or.inr ⟨by unfold idP; omega, by unfold idP; omega⟩
theorem al_A {g : Gh} {q : Nat} (h : q < 3 + gC g) : al g (idA q) := Or.inr ⟨by unfold idA; omega, by unfold idA; omega⟩
theorem al_F {g : Gh} {q : Nat} (h : q < 3 + gC g) : al g (idF q) := Or.inr ⟨by unfold idF; omega, by unfold idF; omega⟩
theorem al_L {g : Gh} {q p : Nat} (h : q < 3 + gC g) (hp : p < 3) : al g (idL q p) := Or.inr ⟨by unfold idL; omega, by unfold idL; omega⟩
theorem al_D {g : Gh} {q p : Nat} (h : q < 3 + gC g) (hp : p < 3) : al g (idD q p) := Or.inr ⟨by unfold idD; omega, by unfold idD; omega⟩
theorem al_0 {g : Gh} {i : Nat} (h : i < 13) : al g i := Or.inl h
def cosT (j : Nat) : Int32 := ([2896, 2896, 2896, 2896, 2896, 2896, 2896, 2896, 4017, 3406, 2276, 799, -799, -2276, -3406, -4017, 3784, 1567, -1567, -3784, -3784, -1567, 1567, 3784, 3406, -799, -4017, -2276, 2276, 4017, 799, -3406, 2896, -2896, -2896, 2896, 2896, -2896, -2896, 2896, 2276, -4017, 799, 3406, -3406, -799, 4017, -2276, 1567, -3784, 3784, -1567, -1567, 3784, -3784, 1567, 799, -2276, 3406, -4017, 4017, -3406, 2276, -799] : List Int32).getD j 0
def WZ (s0 : State) (c : Cx) (h : Mem) : Prop := (sA s0 0 < c.1 ∧ sA s0 1 < c.1) ∧ (mK h (sA s0 0) = 21 ∧ mL h (sA s0 0) = 64 ∧ ∀ j, j < 64 → mI h (sA s0 0) j = nI (zzT j)) ∧ (mK h (sA s0 1) = 21 ∧ mL h (sA s0 1) = 64 ∧ ∀ j, j < 64 → mI h (sA s0 1) j = cosT j)
/-! the room that is left: what a plane may still grow -/
def tri (n : Nat) : Nat := n * (n + 1) / 2
def wU (p len : Nat) : Nat := 64 * (tri (if p = 0 then 64 else 16) - tri (len / 64))
def wN (p len : Nat) : Nat := (if p = 0 then 64 else 16) - len / 64
def smN (f : Nat → Nat) : Nat → Nat
  | 0 => 0
  | n + 1 => smN f n + f n
def pcU (g : Gh) (q : Nat) : Nat := if q < 3 + gC g then wU 0 (gL g (idD q 0)) + wU 1 (gL g (idD q 1)) + wU 2 (gL g (idD q 2)) else 21 + (wU 0 0 + wU 1 0 + wU 2 0)
def pcN (g : Gh) (q : Nat) : Nat := if q < 3 + gC g then wN 0 (gL g (idD q 0)) + wN 1 (gL g (idD q 1)) + wN 2 (gL g (idD q 2)) else 9 + (wN 0 0 + wN 1 0 + wN 2 0)
def ptU (g : Gh) : Nat := smN (pcU g) 23
def ptN (g : Gh) : Nat := smN (pcN g) 23
def okG (g : Gh) : Prop := (gN g < 3 ∧ gT g < 3 ∧ gO g < 3 ∧ gN g ≠ gT g ∧ gN g ≠ gO g ∧ gT g ≠ gO g) ∧ gC g ≤ 20
/-- one cell -/
def cel (h : Mem) (g : Gh) (κ : Sg) (i : Nat) : Prop := mK h (gA g i) = kdI i ∧ mL h (gA g i) = lnI g i ∧ (∀ j, mI h (gA g i) j = κ i j) ∧ ∀ j, mR h (gA g i) j = (ptr g i j).map (gA g)
def adr (c : Cx) (h : Mem) (a : Nat) : Prop := c.1 ≤ a ∧ (a < c.2.1 ∨ c.2.1 + 16 ≤ a) ∧ a < mN h
def CR0 (s0 : State) (c : Cx) (h : Mem) (g : Gh) (κ : Sg) : Prop := WZ s0 c h ∧ okG g ∧ (∀ i j, al g i → al g j → gA g i = gA g j → i = j) ∧ (∀ i, al g i → adr c h (gA g i) ∧ cel h g κ i) ∧ (c.1 ≤ c.2.1 ∧ c.2.1 + 16 ≤ mN h)
def bud (c : Cx) (h : Mem) (g : Gh) : Prop := mN h + ptN g ≤ c.2.2.1 + gX g ∧ mU h + ptU g ≤ c.2.2.2 + 6 * gX g
def CRep (s0 : State) (c : Cx) (h : Mem) (g : Gh) (κ : Sg) : Prop := CR0 s0 c h g κ ∧ bud c h g
def frc (c : Cx) (h h' : Mem) : Prop := ∀ a, (a < c.1 ∨ (c.2.1 ≤ a ∧ a < c.2.1 + 16)) → mK h' a = mK h a ∧ mL h' a = mL h a ∧ (∀ j, mI h' a j = mI h a j) ∧ (∀ j, mR h' a j = mR h a j) ∧ ∀ j, mJ h' a j = mJ h a j
theorem frc.refl (c : Cx) (h : Mem) : frc c h h := fun _ _ => ⟨rfl, rfl, fun _ => rfl, fun _ => rfl, fun _ => rfl⟩
theorem frc.trans {c : Cx} {x y z : Mem} (f : frc c x y) (g : frc c y z) : frc c x z := by
  intro a ha
  obtain ⟨f1, f2, f3, f4, f5⟩ := f a ha
  obtain ⟨g1, g2, g3, g4, g5⟩ := g a ha
  exact ⟨g1.trans f1, g2.trans f2, fun j => (g3 j).trans (f3 j), fun j => (g4 j).trans (f4 j), fun j => (g5 j).trans (f5 j)⟩
def CF (s0 : State) (c : Cx) (hB h : Mem) (g : Gh) (κ : Sg) : Prop := CRep s0 c h g κ ∧ frc c hB h
theorem frc.at {c : Cx} {hB h h1 : Mem} {a : Nat} (f : frc c hB h) (ha : adr c h a) (e : ∀ b, b ≠ a → mK h1 b = mK h b ∧ mL h1 b = mL h b ∧ (∀ j, mI h1 b j = mI h b j) ∧ (∀ j, mR h1 b j = mR h b j) ∧ ∀ j, mJ h1 b j = mJ h b j) : frc c hB h1 := f.trans (fun b hb => e b (fun z => by subst z; have := ha.1; have := ha.2.1; omega))
theorem WZ.fr {s0 : State} {c : Cx} {h h' : Mem} (w : WZ s0 c h) (f : frc c h h') : WZ s0 c h' := by
  obtain ⟨⟨z0, z1⟩, w0, w1⟩ := w
  obtain ⟨a1, a2, a3, -⟩ := f (sA s0 0) (Or.inl z0)
  obtain ⟨b1, b2, b3, -⟩ := f (sA s0 1) (Or.inl z1)
  exact ⟨⟨z0, z1⟩, ⟨a1.trans w0.1, a2.trans w0.2.1, fun j hj => (a3 j).trans (w0.2.2 j hj)⟩, ⟨b1.trans w1.1, b2.trans w1.2.1, fun j hj => (b3 j).trans (w1.2.2 j hj)⟩⟩
section CFs
variable {s0 : State} {c : Cx} {hB h : Mem} {g : Gh} {κ : Sg}
theorem frc_sI {i j : Nat} {v : Int32} (hC : CR0 s0 c h g κ) (hi : al g i) : frc c h (sI h (gA g i) j v) := (frc.refl c h).at (hC.2.2.2.1 i hi).1 (fun b hb => ⟨rfl, rfl, fun j' => by rw [mI_sI, if_neg (fun z => hb z.1)], fun _ => rfl, fun _ => rfl⟩)
theorem frc_nw {kd len n : Nat} (hC : c.2.1 + 16 ≤ mN h ∧ c.1 ≤ mN h) : frc c h (nw h kd len n) := fun a ha => by
  have hne : a ≠ mN h := by omega
  refine ⟨by rw [mK_nw]; exact if_neg hne, by rw [mL_nw]; exact if_neg hne, fun j => by rw [mI_nw]; exact if_neg hne, fun j => by rw [mR_nw]; exact if_neg hne, fun j => ?_⟩
  show (if a = mN h then 0 else mJ h a j) = _
  exact if_neg hne
theorem CR0.sI {i j : Nat} {v : Int32} (hC : CR0 s0 c h g κ) (hi : al g i) : CR0 s0 c (sI h (gA g i) j v) g (su κ i j v) := by
  have hf := frc_sI (j := j) (v := v) hC hi
  obtain ⟨hW, hG, hinj, hcel, hmm⟩ := hC
  refine ⟨hW.fr hf, hG, hinj, fun i' hi' => ?_, hmm⟩
  obtain ⟨b1, b2, b3, b4, b5⟩ := hcel i' hi'
  refine ⟨b1, b2, b3, fun j' => ?_, b5⟩
  rw [mI_sI, b4]
  unfold su
  by_cases e : i' = i
  · subst e
    by_cases e2 : j' = j
    · rw [if_pos ⟨rfl, e2⟩, if_pos ⟨rfl, e2⟩]
    · rw [if_neg (fun z => e2 z.2), if_neg (fun z => e2 z.2)]
  · rw [if_neg (fun z => e (hinj i' i hi' hi z.1)), if_neg (fun z => e z.1)]
theorem CF.sI {i j : Nat} {v : Int32} (hC : CF s0 c hB h g κ) (hi : al g i) : CF s0 c hB (sI h (gA g i) j v) g (su κ i j v) :=
  ⟨⟨hC.1.1.sI hi, hC.1.2⟩, hC.2.trans (frc_sI hC.1.1 hi)⟩
theorem CR0.nw {kd len n : Nat} (hC : CR0 s0 c h g κ) : CR0 s0 c (nw h kd len n) g κ := by
  obtain ⟨hW, hG, hinj, hcel, hm⟩ := hC
  refine ⟨hW.fr (frc_nw ⟨by omega, by omega⟩), hG, hinj, fun i hi => ?_, hm.1, ?_⟩
  · obtain ⟨b1, b2, b3, b4, b5⟩ := hcel i hi
    have h1 : gA g i ≠ mN h := by have := b1.2.2; omega
    exact ⟨⟨b1.1, b1.2.1, by rw [mN_nw]; have := b1.2.2; omega⟩, by rw [mK_nw]; exact (if_neg h1).trans b2, by rw [mL_nw]; exact (if_neg h1).trans b3, fun j => by rw [mI_nw]; exact (if_neg h1).trans (b4 j), fun j => by rw [mR_nw]; exact (if_neg h1).trans (b5 j)⟩
  · rw [mN_nw]; omega
theorem CF.thr (hC : CF s0 c hB h g κ) : CF s0 c hB (nw h 0 0 6) (gx g) κ := by
  refine ⟨⟨hC.1.1.nw, ?_, ?_⟩, hC.2.trans (frc_nw ⟨hC.1.1.2.2.2.2.2, by have := hC.1.1.2.2.2.2; omega⟩)⟩
  · rw [mN_nw]; show mN h + 1 + ptN g ≤ c.2.2.1 + (gX g + 1); have := hC.1.2.1; omega
  · rw [mU_nw]; show mU h + 6 + ptU g ≤ c.2.2.2 + 6 * (gX g + 1); have := hC.1.2.2; omega
theorem CR0.cp {i i2 sp dp n : Nat} (hC : CR0 s0 c h g κ) (hi : al g i) (hi2 : al g i2) : CR0 s0 c (cpI h (gA g i) sp (gA g i2) dp n) g (sa κ i2 (fun j => if dp ≤ j ∧ j < dp + n then κ i (sp + (j - dp)) else κ i2 j)) ∧ frc c h (cpI h (gA g i) sp (gA g i2) dp n) := by
  have hf : frc c h (cpI h (gA g i) sp (gA g i2) dp n) := (frc.refl c h).at (hC.2.2.2.1 i2 hi2).1 (fun b hb => ⟨rfl, rfl, fun j' => by rw [mI_cpI, if_neg (fun z => hb z.1)], fun _ => rfl, fun _ => rfl⟩)
  refine ⟨?_, hf⟩
  obtain ⟨hW, hG, hinj, hcel, hmm⟩ := hC
  refine ⟨hW.fr hf, hG, hinj, fun i' hi' => ?_, hmm⟩
  obtain ⟨b1, b2, b3, b4, b5⟩ := hcel i' hi'
  refine ⟨b1, b2, b3, fun j' => ?_, b5⟩
  rw [mI_cpI, b4, (hcel i hi).2.2.2.1]
  unfold sa
  by_cases e : i' = i2
  · subst e
    rw [if_pos rfl]
    by_cases e2 : dp ≤ j' ∧ j' < dp + n
    · rw [if_pos ⟨rfl, e2⟩]; exact (if_pos e2).symm
    · rw [if_neg (fun z => e2 z.2)]; exact (if_neg e2).symm
  · rw [if_neg (fun z => e (hinj i' i2 hi' hi2 z.1)), if_neg e]
end CFs
def KQ (s0 : State) (l : Launch) (M : MI) (c : Cx) (hB : Mem) (pc : Nat) (L : List (Option Value)) (st : List Value) (g : Gh) (κ : Sg) (P : Out → Gh → Sg → Prop) : Prop :=
  ∀ h, CF s0 c hB h g κ → RQ s0 l M hB pc L st h (fun o h' => ∃ g' κ', CF s0 c hB h' g' κ' ∧ P o g' κ')
def KC (s0 : State) (l : Launch) (M : MI) (c : Cx) (args : List Value) (g : Gh) (κ : Sg) (P : Out → Gh → Sg → Prop) : Prop :=
  ∀ h, CRep s0 c h g κ → CQ s0 l M args h (fun o h' => ∃ g' κ', CF s0 c h h' g' κ' ∧ P o g' κ')
section KRules
variable {s0 : State} {l : Launch} {M M' : MI} {c : Cx} {hB : Mem} {pc : Nat} {L : List (Option Value)} {st st0 rest : List Value} {g : Gh} {κ : Sg} {P P' : Out → Gh → Sg → Prop} {As : List Value}
theorem k_in (hy : plainName (iY M).cls = true) (hH : iH M = []) (hc : As.all (fun v => v.category == 1) = true) (hn : As.length ≤ iL M) (k : ∀ hB, KQ s0 l M c hB 0 (ent As (iL M)) [] g κ P) : KC s0 l M c As g κ P := fun h hM =>
  c_in hy hH hc hn (k h h ⟨hM, frc.refl _ _⟩)
theorem KC.mono {args : List Value} (k : KC s0 l M c args g κ P) (f : ∀ o g' κ', P o g' κ' → P' o g' κ') : KC s0 l M c args g κ P' := fun h hM => (k h hM).mono (fun o h' ⟨g', κ', a, b⟩ => ⟨g', κ', a, f o g' κ' b⟩)
theorem KQ.mono (k : KQ s0 l M c hB pc L st g κ P) (f : ∀ o g' κ', P o g' κ' → P' o g' κ') : KQ s0 l M c hB pc L st g κ P' := fun h hM => (k h hM).mono (fun o h' ⟨g', κ', a, b⟩ => ⟨g', κ', a, f o g' κ' b⟩)
theorem k_st {κ2 : Sg} (e : κ = κ2) (k : KQ s0 l M c hB pc L st g κ2 P) : KQ s0 l M c hB pc L st g κ P := e ▸ k
theorem k_top {v w : Int32} (e : v = w) (k : KQ s0 l M c hB pc L (.int w :: st) g κ P) : KQ s0 l M c hB pc L (.int v :: st) g κ P := e ▸ k
theorem k_forget (i : Nat) (k : KQ s0 l M c hB pc (L.set i none) st g κ P) : KQ s0 l M c hB pc L st g κ P := fun h hM => RQ.forget i (k h hM)
theorem k_get {i idx ci k : Nat} (hd : decode (iC M) pc = .ok (.getfield idx, 3)) (hf : FL (iY M).cls idx ci k) (ht : isR ci k = false) (hi : al g i) (hk : kdI i = ci + 1) (kk : KQ s0 l M c hB (pc + 3) L (.int (κ i k) :: st) g κ P) : KQ s0 l M c hB pc L (.ref (gA g i) :: st) g κ P := fun h hM => by
  obtain ⟨b1, b2, b3, b4, b5⟩ := hM.1.1.2.2.2.1 i hi
  refine q_getI hd hf ht (b2.trans hk) ?_
  rw [b4]
  exact kk h hM
theorem k_getE {i idx ci k : Nat} {x : Int32} (hd : decode (iC M) pc = .ok (.getfield idx, 3)) (hf : FL (iY M).cls idx ci k) (ht : isR ci k = false) (hi : al g i) (hk : kdI i = ci + 1) (hx : κ i k = x) (kk : KQ s0 l M c hB (pc + 3) L (.int x :: st) g κ P) : KQ s0 l M c hB pc L (.ref (gA g i) :: st) g κ P := k_get hd hf ht hi hk (by rw [hx]; exact kk)
theorem k_getR {i idx ci k t : Nat} (hd : decode (iC M) pc = .ok (.getfield idx, 3)) (hf : FL (iY M).cls idx ci k) (ht : isR ci k = true) (hi : al g i) (hk : kdI i = ci + 1) (hp : ptr g i k = some t) (kk : KQ s0 l M c hB (pc + 3) L (.ref (gA g t) :: st) g κ P) : KQ s0 l M c hB pc L (.ref (gA g i) :: st) g κ P := fun h hM => by
  obtain ⟨b1, b2, b3, b4, b5⟩ := hM.1.1.2.2.2.1 i hi
  exact q_getR hd hf ht (b2.trans hk) (by rw [b5, hp]; rfl) (kk h hM)
theorem k_put {i idx ci k : Nat} {x : Int32} (hd : decode (iC M) pc = .ok (.putfield idx, 3)) (hf : FL (iY M).cls idx ci k) (ht : isR ci k = false) (hi : al g i) (hk : kdI i = ci + 1) (hn : narrow (cY ci k) (.int x) = .int x) (hfit : fits (cY ci k) (.int x) = true) (hfin : (cT ci k).2.2.2 = false) (kk : KQ s0 l M c hB (pc + 3) L st g (su κ i k x) P) : KQ s0 l M c hB pc L (.int x :: .ref (gA g i) :: st) g κ P := fun h hM => by
  obtain ⟨b1, b2, b3, b4, b5⟩ := hM.1.1.2.2.2.1 i hi
  exact q_putI hd hf ht (b2.trans hk) hn hfit (Or.inl hfin) (kk _ (hM.sI hi))
theorem k_iaload {i : Nat} {j : Int32} (hd : decode (iC M) pc = .ok (.iaload, 1)) (hi : al g i) (hk : kdI i = 11) (hin : vp_in j (lnI g i)) (kk : KQ s0 l M c hB (pc + 1) L (.int (κ i j.toNatClampNeg) :: st) g κ P) : KQ s0 l M c hB pc L (.int j :: .ref (gA g i) :: st) g κ P := fun h hM => by
  obtain ⟨b1, b2, b3, b4, b5⟩ := hM.1.1.2.2.2.1 i hi
  refine q_iaload hd (Or.inl (b2.trans hk)) (by rw [b3]; exact hin) ?_
  rw [b4]
  exact kk h hM
theorem k_baload {i : Nat} {j : Int32} (hd : decode (iC M) pc = .ok (.baload, 1)) (hi : al g i) (hk : kdI i = 12) (hin : vp_in j (lnI g i)) (kk : KQ s0 l M c hB (pc + 1) L (.int (κ i j.toNatClampNeg) :: st) g κ P) : KQ s0 l M c hB pc L (.int j :: .ref (gA g i) :: st) g κ P := fun h hM => by
  obtain ⟨b1, b2, b3, b4, b5⟩ := hM.1.1.2.2.2.1 i hi
  refine q_baload hd (b2.trans hk) (by rw [b3]; exact hin) ?_
  rw [b4]
  exact kk h hM
theorem k_iastore {i : Nat} {j x : Int32} (hd : decode (iC M) pc = .ok (.iastore, 1)) (hi : al g i) (hk : kdI i = 11) (hin : vp_in j (lnI g i)) (kk : KQ s0 l M c hB (pc + 1) L st g (su κ i j.toNatClampNeg x) P) : KQ s0 l M c hB pc L (.int x :: .int j :: .ref (gA g i) :: st) g κ P := fun h hM => by
  obtain ⟨b1, b2, b3, b4, b5⟩ := hM.1.1.2.2.2.1 i hi
  exact q_iastore hd (b2.trans hk) (by rw [b3]; exact hin) (kk _ (hM.sI hi))
theorem k_bastore {i : Nat} {j x : Int32} (hd : decode (iC M) pc = .ok (.bastore, 1)) (hi : al g i) (hk : kdI i = 12) (hin : vp_in j (lnI g i)) (kk : KQ s0 l M c hB (pc + 1) L st g (su κ i j.toNatClampNeg x.toInt8.toInt32) P) : KQ s0 l M c hB pc L (.int x :: .int j :: .ref (gA g i) :: st) g κ P := fun h hM => by
  obtain ⟨b1, b2, b3, b4, b5⟩ := hM.1.1.2.2.2.1 i hi
  exact q_bastore hd (b2.trans hk) (by rw [b3]; exact hin) (kk _ (hM.sI hi))
theorem k_aaload {i ci t : Nat} {j : Int32} (hd : decode (iC M) pc = .ok (.aaload, 1)) (hci : ci = 1 ∨ ci = 2) (hi : al g i) (hk : kdI i = ci + 13) (hin : vp_in j (lnI g i)) (hp : ptr g i j.toNatClampNeg = some t) (kk : KQ s0 l M c hB (pc + 1) L (.ref (gA g t) :: st) g κ P) : KQ s0 l M c hB pc L (.int j :: .ref (gA g i) :: st) g κ P := fun h hM => by
  obtain ⟨b1, b2, b3, b4, b5⟩ := hM.1.1.2.2.2.1 i hi
  exact q_aaload hd hci (b2.trans hk) (by rw [b3]; exact hin) (by rw [b5, hp]; rfl) (kk h hM)
theorem k_aaloadN {i ci : Nat} {j : Int32} (hd : decode (iC M) pc = .ok (.aaload, 1)) (hci : ci = 1 ∨ ci = 2) (hi : al g i) (hk : kdI i = ci + 13) (hin : vp_in j (lnI g i)) (hp : ptr g i j.toNatClampNeg = none) (kk : KQ s0 l M c hB (pc + 1) L (.null :: st) g κ P) : KQ s0 l M c hB pc L (.int j :: .ref (gA g i) :: st) g κ P := fun h hM => by
  obtain ⟨b1, b2, b3, b4, b5⟩ := hM.1.1.2.2.2.1 i hi
  exact q_aaloadN hd hci (b2.trans hk) (by rw [b3]; exact hin) (by rw [b5, hp]; rfl) (kk h hM)
theorem k_alen {i n : Nat} (hd : decode (iC M) pc = .ok (.arraylength, 1)) (hi : al g i) (hk : kdI i = 11) (hn : lnI g i = n) (kk : KQ s0 l M c hB (pc + 1) L (.int (nI n) :: st) g κ P) : KQ s0 l M c hB pc L (.ref (gA g i) :: st) g κ P := fun h hM => by
  obtain ⟨b1, b2, b3, b4, b5⟩ := hM.1.1.2.2.2.1 i hi
  refine q_alen hd (Or.inl (b2.trans hk)) ?_
  rw [b3, hn]
  exact kk h hM
theorem k_alenQ {i ci n : Nat} (hd : decode (iC M) pc = .ok (.arraylength, 1)) (hci : ci = 1 ∨ ci = 2) (hi : al g i) (hk : kdI i = ci + 13) (hn : lnI g i = n) (kk : KQ s0 l M c hB (pc + 1) L (.int (nI n) :: st) g κ P) : KQ s0 l M c hB pc L (.ref (gA g i) :: st) g κ P := fun h hM => by
  obtain ⟨b1, b2, b3, b4, b5⟩ := hM.1.1.2.2.2.1 i hi
  refine q_alenQ hd hci (b2.trans hk) ?_
  rw [b3, hn]
  exact kk h hM
theorem k_gets {idx k : Nat} (hd : decode (iC M) pc = .ok (.getstatic idx, 3)) (hk : k < 3) (hf : Cond.fieldLink (iY M).cls idx (sC k) (sNm k) "[I" ∈ lw_tbl) (kk : KQ s0 l M c hB (pc + 3) L (.ref (sA s0 k) :: st) g κ P) : KQ s0 l M c hB pc L st g κ P := fun h hM => q_gets hd hk hf (kk h hM)
theorem k_zload {j : Int32} (hd : decode (iC M) pc = .ok (.iaload, 1)) (hin : vp_in j 64) (kk : KQ s0 l M c hB (pc + 1) L (.int (nI (zzT j.toNatClampNeg)) :: st) g κ P) : KQ s0 l M c hB pc L (.int j :: .ref (sA s0 0) :: st) g κ P := fun h hM => by
  obtain ⟨-, ⟨w1, w2, w3⟩, -⟩ := hM.1.1.1
  refine q_iaload hd (Or.inr w1) (by rw [w2]; exact hin) ?_
  rw [w3 _ (vp_lt hin)]
  exact kk h hM
theorem k_cload {j : Int32} (hd : decode (iC M) pc = .ok (.iaload, 1)) (hin : vp_in j 64) (kk : KQ s0 l M c hB (pc + 1) L (.int (cosT j.toNatClampNeg) :: st) g κ P) : KQ s0 l M c hB pc L (.int j :: .ref (sA s0 1) :: st) g κ P := fun h hM => by
  obtain ⟨-, -, ⟨w1, w2, w3⟩⟩ := hM.1.1.1
  refine q_iaload hd (Or.inr w1) (by rw [w2]; exact hin) ?_
  rw [w3 _ (vp_lt hin)]
  exact kk h hM
theorem k_min {idx : Nat} {x y : Int32} (hd : decode (iC M) pc = .ok (.invokestatic idx, 3)) (hl : Cond.methodLink (iY M).cls idx Lib.Math.min.name ∈ lw_tbl) (h1 : Cond.static Lib.Math.min.name ∈ lw_tbl) (h2 : Cond.initialized "java/lang/Math" ∈ lw_tbl) (h3 : Cond.code Lib.Math.min.name Lib.Math.min.code 2 (some .int) ∈ lw_tbl) (hs : (st.map fun v => v.category).sum ≤ 8) (hr : 1 ≤ iF M ∧ 21 ≤ iW M) (kk : KQ s0 l M c hB (pc + 3) L (.int (if y < x then y else x) :: st) g κ P) : KQ s0 l M c hB pc L (.int y :: .int x :: st) g κ P := fun h hM => q_min hd hl h1 h2 h3 hs hr (kk h hM)
theorem k_copy {idx i i2 : Nat} {sp dp n : Int32} (hd : decode (iC M) pc = .ok (.invokestatic idx, 3)) (hl : Cond.methodLink (iY M).cls idx arraycopyName ∈ lw_tbl) (w1 : Cond.native arraycopyName ∈ lw_tbl) (w2 : Cond.static arraycopyName ∈ lw_tbl) (w3 : Cond.initialized "java/lang/System" ∈ lw_tbl) (hi : al g i) (hi2 : al g i2) (hka : kdI i = 11) (hkb : kdI i2 = 11) (h1 : ¬ sp < 0) (h2 : ¬ dp < 0) (h3 : ¬ n < 0) (h4 : sp.toNatClampNeg + n.toNatClampNeg ≤ lnI g i) (h5 : dp.toNatClampNeg + n.toNatClampNeg ≤ lnI g i2)
    (hw : (rest.map fun v => v.category).sum ≤ 8) (hr : 1 ≤ iF M ∧ 40 ≤ iW M) (kk : KQ s0 l M c hB (pc + 3) L rest g (sa κ i2 (fun j => if dp.toNatClampNeg ≤ j ∧ j < dp.toNatClampNeg + n.toNatClampNeg then κ i (sp.toNatClampNeg + (j - dp.toNatClampNeg)) else κ i2 j)) P) : KQ s0 l M c hB pc L (.int n :: .int dp :: .ref (gA g i2) :: .int sp :: .ref (gA g i) :: rest) g κ P := fun h hM => by
  obtain ⟨b1, b2, b3, b4, b5⟩ := hM.1.1.2.2.2.1 i hi
  obtain ⟨a1, a2, a3, a4, a5⟩ := hM.1.1.2.2.2.1 i2 hi2
  have h9 := hM.1.1.cp (sp := sp.toNatClampNeg) (dp := dp.toNatClampNeg) (n := n.toNatClampNeg) hi hi2
  exact q_copy hd hl w1 w2 w3 (b2.trans hka) (a2.trans hkb) h1 h2 h3 (by rw [b3]; exact h4) (by rw [a3]; exact h5) hw hr (kk _ ⟨⟨h9.1, hM.1.2⟩, hM.2.trans h9.2⟩)
theorem k_throw {ik ic : Nat} {cls : String} (hd0 : decode (iC M) pc = .ok (.new ik, 3)) (hd3 : decode (iC M) (pc + 3) = .ok (.dup, 1)) (hd4 : decode (iC M) (pc + 4) = .ok (.invokespecial ic, 3)) (hd7 : decode (iC M) (pc + 7) = .ok (.athrow, 1)) (hcls : Bundle.fit cls = true)
    (hk : Cond.classLink (iY M).cls ik cls ∈ lw_tbl) (hi : Cond.initialized cls ∈ lw_tbl) (hat : ∀ w ∈ vx_at0 (iY M).cls ic cls ["java/lang/RuntimeException", "java/lang/Exception"], w ∈ lw_tbl ∧ w.onTables = true ∧ (goodWord w = true ∨ w.keepsFace = true)) (hH : iH M = []) (hs : (st.map fun v => v.category).sum ≤ 8) (hr : 6 ≤ iF M ∧ 89 ≤ iW M) (hQ : P (.inr cls) (gx g) κ) : KQ s0 l M c hB pc L st g κ P := fun h hM => q_throw hd0 hd3 hd4 hd7 hcls hk hi hat hH hs hr ⟨_, _, hM.thr, hQ⟩
theorem k_call {i idx ci n : Nat} (hd : decode (iC M) pc = .ok (.invokevirtual idx, 3)) (hl : Cond.methodLink (iY M).cls idx (iY M') ∈ lw_tbl) (mv : MV M' ci n) (hH : iH M' = []) (hM0 : iH M = []) (hi : al g i) (hk : kdI i = ci + 1) (hn : As.length = n) (hs : st0 = As.reverse ++ .ref (gA g i) :: rest) (hw : (rest.map fun v => v.category).sum ≤ 8) (hr : iF M' + 1 ≤ iF M ∧ 8 + (iL M' + 11) + iW M' ≤ iW M)
    (hc : KC s0 l M' c (.ref (gA g i) :: As) g κ P') (k1 : ∀ v g' κ', P' (.inl v) g' κ' → KQ s0 l M c hB (pc + 3) L (v.toList ++ rest) g' κ' P) (k2 : ∀ E g' κ', P' (.inr E) g' κ' → P (.inr E) g' κ') : KQ s0 l M c hB pc L st0 g κ P := fun h hM => by
  obtain ⟨b1, b2, b3, b4, b5⟩ := hM.1.1.2.2.2.1 i hi
  refine q_callV hd hl mv hH (b2.trans hk) hn hs hw hr (hc h hM.1) (fun v h1 q => ?_) (fun E0 h1 q => ?_)
  · obtain ⟨g', κ', hM', hp⟩ := q
    exact k1 v g' κ' hp h1 ⟨hM'.1, hM.2.trans hM'.2⟩
  · obtain ⟨g', κ', hM', hp⟩ := q
    exact q_out (by rw [hM0]; intro x hx; cases hx) ⟨g', κ', ⟨hM'.1, hM.2.trans hM'.2⟩, k2 E0 g' κ' hp⟩
theorem k_callS {idx n : Nat} (hd : decode (iC M) pc = .ok (.invokestatic idx, 3)) (hl : Cond.methodLink (iY M).cls idx (iY M') ∈ lw_tbl) (mv : MS M' n) (hH : iH M' = []) (hM0 : iH M = []) (hn : As.length = n) (hs : st0 = As.reverse ++ rest) (hw : (rest.map fun v => v.category).sum ≤ 8) (hr : iF M' + 1 ≤ iF M ∧ 8 + (iL M' + 11) + iW M' ≤ iW M)
    (hc : KC s0 l M' c As g κ P') (k1 : ∀ v g' κ', P' (.inl v) g' κ' → KQ s0 l M c hB (pc + 3) L (v.toList ++ rest) g' κ' P) (k2 : ∀ E g' κ', P' (.inr E) g' κ' → P (.inr E) g' κ') : KQ s0 l M c hB pc L st0 g κ P := fun h hM => by
  refine q_callS hd hl mv hH hn hs hw hr (hc h hM.1) (fun v h1 q => ?_) (fun E0 h1 q => ?_)
  · obtain ⟨g', κ', hM', hp⟩ := q
    exact k1 v g' κ' hp h1 ⟨hM'.1, hM.2.trans hM'.2⟩
  · obtain ⟨g', κ', hM', hp⟩ := q
    exact q_out (by rw [hM0]; intro x hx; cases hx) ⟨g', κ', ⟨hM'.1, hM.2.trans hM'.2⟩, k2 E0 g' κ' hp⟩
/-- held -/
theorem k_held {idx : Nat} {v lo hi : Int32} (hd : decode (iC M) pc = .ok (.invokestatic idx, 3)) (hl : Cond.methodLinkNest (iY M).cls idx (iY M_X_held) "ReelReader" ∈ lw_tbl) (hw : (rest.map fun v => v.category).sum ≤ 8) (hr : iF M_X_held + 1 ≤ iF M ∧ 8 + (iL M_X_held + 11) + iW M_X_held ≤ iW M) (kk : KQ s0 l M c hB (pc + 3) L (.int (hel v lo hi) :: rest) g κ P) : KQ s0 l M c hB pc L (.int hi :: .int lo :: .int v :: rest) g κ P := fun h hM => by
  refine q_callSN (As := [.int v, .int lo, .int hi]) hd hl ms_X_held rfl rfl rfl hw hr ((m_X_held (s0 := s0) (l := l) (h := h)).mono (Q' := fun o h1 => ∃ v9, o = .inl v9 ∧ (v9 = some (.int (hel v lo hi)) ∧ h1 = h)) (fun o h1 q => ⟨_, q.1, rfl, q.2⟩)) (fun v9 h1 q => ?_)
  obtain ⟨rfl, rfl⟩ := q
  exact kk _ hM
theorem k_iret {v : Int32} {ty : FieldType} (hd : decode (iC M) pc = .ok (.ireturn, 1)) (hr : iR M = some ty) (hn : narrow ty (.int v) = .int v) (hP : P (.inl (some (.int v))) g κ) : KQ s0 l M c hB pc L [.int v] g κ P := fun h hM => q_iret hd hr hn ⟨_, _, hM, hP⟩
theorem k_vret (hd : decode (iC M) pc = .ok (.return_, 1)) (hr : iR M = none) (hP : P (.inl none) g κ) : KQ s0 l M c hB pc L [] g κ P := fun h hM => q_vret hd hr ⟨_, _, hM, hP⟩
theorem k_aret {v : Value} {rt : FieldType} (hd : decode (iC M) pc = .ok (.areturn, 1)) (hr : iR M = some rt) (hrt : (∃ n, rt = .object n) ∨ ∃ t, rt = .array t) (hv : v = .null ∨ ∃ a, v = .ref a) (hP : P (.inl (some v)) g κ) : KQ s0 l M c hB pc L [v] g κ P := fun h hM => q_aret hd hr hrt hv ⟨_, _, hM, hP⟩
theorem k_loop (N : Nat) (S : Nat → Sg) (Lf : Nat → List (Option Value)) (hstep : ∀ i, i < N → KQ s0 l M c hB pc (Lf (i + 1)) [] g (S (i + 1)) P → KQ s0 l M c hB pc (Lf i) [] g (S i) P) (hend : KQ s0 l M c hB pc (Lf N) [] g (S N) P) : ∀ i, i ≤ N → KQ s0 l M c hB pc (Lf i) [] g (S i) P := by
  intro i hi
  obtain ⟨n, rfl⟩ := Nat.exists_eq_add_of_le hi
  clear hi
  induction n generalizing i with
  | zero => exact hend
  | succ n ih =>
    refine hstep i (by omega) ?_
    have e : i + (n + 1) = i + 1 + n := by omega
    rw [e] at hstep hend
    exact ih (i + 1) hstep hend
theorem k_iconst {n : Int} {v : Int32} (hd : decode (iC M) pc = .ok (.iconst n, 1)) (hv : Int32.ofInt n = v) (k : KQ s0 l M c hB (pc + 1) L (.int v :: st) g κ P) : KQ s0 l M c hB pc L (st) g κ P := fun h hM => q_iconst hd hv (k h hM)
theorem k_bipush {n : Int} {v : Int32} (hd : decode (iC M) pc = .ok (.bipush n, 2)) (hv : (Int8.ofInt n).toInt32 = v) (k : KQ s0 l M c hB (pc + 2) L (.int v :: st) g κ P) : KQ s0 l M c hB pc L (st) g κ P := fun h hM => q_bipush hd hv (k h hM)
theorem k_sipush {n : Int} {v : Int32} (hd : decode (iC M) pc = .ok (.sipush n, 3)) (hv : (Int16.ofInt n).toInt32 = v) (k : KQ s0 l M c hB (pc + 3) L (.int v :: st) g κ P) : KQ s0 l M c hB pc L (st) g κ P := fun h hM => q_sipush hd hv (k h hM)
theorem k_iload_n {k9 : Fin 4} {i : Nat} {x : Int32} (hd : decode (iC M) pc = .ok (.iload_n k9, 1)) (hi : (k9 : Nat) = i) (hl : L[i]? = some (some (.int x))) (k : KQ s0 l M c hB (pc + 1) L (.int x :: st) g κ P) : KQ s0 l M c hB pc L (st) g κ P := fun h hM => q_iload_n hd hi hl (k h hM)
theorem k_iload {i : Nat} {x : Int32} (hd : decode (iC M) pc = .ok (.iload i, 2)) (hl : L[i]? = some (some (.int x))) (k : KQ s0 l M c hB (pc + 2) L (.int x :: st) g κ P) : KQ s0 l M c hB pc L (st) g κ P := fun h hM => q_iload hd hl (k h hM)
theorem k_aload_n {k9 : Fin 4} {i : Nat} {x : Nat} (hd : decode (iC M) pc = .ok (.aload_n k9, 1)) (hi : (k9 : Nat) = i) (hl : L[i]? = some (some (.ref x))) (k : KQ s0 l M c hB (pc + 1) L (.ref x :: st) g κ P) : KQ s0 l M c hB pc L (st) g κ P := fun h hM => q_aload_n hd hi hl (k h hM)
theorem k_aload {i : Nat} {x : Nat} (hd : decode (iC M) pc = .ok (.aload i, 2)) (hl : L[i]? = some (some (.ref x))) (k : KQ s0 l M c hB (pc + 2) L (.ref x :: st) g κ P) : KQ s0 l M c hB pc L (st) g κ P := fun h hM => q_aload hd hl (k h hM)
theorem k_iadd {x y : Int32} (hd : decode (iC M) pc = .ok (.iadd, 1))  (k : KQ s0 l M c hB (pc + 1) L (.int (x + y) :: st) g κ P) : KQ s0 l M c hB pc L (.int y :: .int x :: st) g κ P := fun h hM => q_iadd hd  (k h hM)
theorem k_isub {x y : Int32} (hd : decode (iC M) pc = .ok (.isub, 1))  (k : KQ s0 l M c hB (pc + 1) L (.int (x - y) :: st) g κ P) : KQ s0 l M c hB pc L (.int y :: .int x :: st) g κ P := fun h hM => q_isub hd  (k h hM)
theorem k_imul {x y : Int32} (hd : decode (iC M) pc = .ok (.imul, 1))  (k : KQ s0 l M c hB (pc + 1) L (.int (x * y) :: st) g κ P) : KQ s0 l M c hB pc L (.int y :: .int x :: st) g κ P := fun h hM => q_imul hd  (k h hM)
theorem k_iand {x y : Int32} (hd : decode (iC M) pc = .ok (.iand, 1))  (k : KQ s0 l M c hB (pc + 1) L (.int (x &&& y) :: st) g κ P) : KQ s0 l M c hB pc L (.int y :: .int x :: st) g κ P := fun h hM => q_iand hd  (k h hM)
theorem k_ior {x y : Int32} (hd : decode (iC M) pc = .ok (.ior, 1))  (k : KQ s0 l M c hB (pc + 1) L (.int (x ||| y) :: st) g κ P) : KQ s0 l M c hB pc L (.int y :: .int x :: st) g κ P := fun h hM => q_ior hd  (k h hM)
theorem k_ixor {x y : Int32} (hd : decode (iC M) pc = .ok (.ixor, 1))  (k : KQ s0 l M c hB (pc + 1) L (.int (x ^^^ y) :: st) g κ P) : KQ s0 l M c hB pc L (.int y :: .int x :: st) g κ P := fun h hM => q_ixor hd  (k h hM)
theorem k_ishl {x y : Int32} (hd : decode (iC M) pc = .ok (.ishl, 1))  (k : KQ s0 l M c hB (pc + 1) L (.int (x <<< (y &&& 31)) :: st) g κ P) : KQ s0 l M c hB pc L (.int y :: .int x :: st) g κ P := fun h hM => q_ishl hd  (k h hM)
theorem k_ishr {x y : Int32} (hd : decode (iC M) pc = .ok (.ishr, 1))  (k : KQ s0 l M c hB (pc + 1) L (.int (x >>> (y &&& 31)) :: st) g κ P) : KQ s0 l M c hB pc L (.int y :: .int x :: st) g κ P := fun h hM => q_ishr hd  (k h hM)
theorem k_idiv {x y : Int32} (hd : decode (iC M) pc = .ok (.idiv, 1)) (hne : ¬ y = 0) (k : KQ s0 l M c hB (pc + 1) L (.int (x / y) :: st) g κ P) : KQ s0 l M c hB pc L (.int y :: .int x :: st) g κ P := fun h hM => q_idiv hd hne (k h hM)
theorem k_irem {x y : Int32} (hd : decode (iC M) pc = .ok (.irem, 1)) (hne : ¬ y = 0) (k : KQ s0 l M c hB (pc + 1) L (.int (x - x / y * y) :: st) g κ P) : KQ s0 l M c hB pc L (.int y :: .int x :: st) g κ P := fun h hM => q_irem hd hne (k h hM)
theorem k_ineg {x : Int32} (hd : decode (iC M) pc = .ok (.ineg, 1))  (k : KQ s0 l M c hB (pc + 1) L (.int (-x) :: st) g κ P) : KQ s0 l M c hB pc L (.int x :: st) g κ P := fun h hM => q_ineg hd  (k h hM)
theorem k_i2b {x : Int32} (hd : decode (iC M) pc = .ok (.i2b, 1))  (k : KQ s0 l M c hB (pc + 1) L (.int x.toInt8.toInt32 :: st) g κ P) : KQ s0 l M c hB pc L (.int x :: st) g κ P := fun h hM => q_i2b hd  (k h hM)
theorem k_dup {va : Value} (hd : decode (iC M) pc = .ok (.dup, 1)) (hva : va.category = 1) (k : KQ s0 l M c hB (pc + 1) L (va :: va :: st) g κ P) : KQ s0 l M c hB pc L (va :: st) g κ P := fun h hM => q_dup hd hva (k h hM)
theorem k_pop {va : Value} (hd : decode (iC M) pc = .ok (.pop, 1)) (hva : va.category = 1) (k : KQ s0 l M c hB (pc + 1) L (st) g κ P) : KQ s0 l M c hB pc L (va :: st) g κ P := fun h hM => q_pop hd hva (k h hM)
theorem k_dup2 {va vb : Value} (hd : decode (iC M) pc = .ok (.dup2, 1)) (hva : va.category = 1) (hvb : vb.category = 1) (k : KQ s0 l M c hB (pc + 1) L (va :: vb :: va :: vb :: st) g κ P) : KQ s0 l M c hB pc L (va :: vb :: st) g κ P := fun h hM => q_dup2 hd hva hvb (k h hM)
theorem k_istore_n {k9 : Fin 4} {i : Nat} {x : Int32} (hd : decode (iC M) pc = .ok (.istore_n k9, 1)) (hi : (k9 : Nat) = i) (hn : i < L.length) (k : KQ s0 l M c hB (pc + 1) (L.set i (some (.int x))) st g κ P) : KQ s0 l M c hB pc L (.int x :: st) g κ P := fun h hM => q_istore_n hd hi hn (k h hM)
theorem k_istore {i : Nat} {x : Int32} (hd : decode (iC M) pc = .ok (.istore i, 2)) (hn : i < L.length) (k : KQ s0 l M c hB (pc + 2) (L.set i (some (.int x))) st g κ P) : KQ s0 l M c hB pc L (.int x :: st) g κ P := fun h hM => q_istore hd hn (k h hM)
theorem k_astore_n {k9 : Fin 4} {i : Nat} {x : Nat} (hd : decode (iC M) pc = .ok (.astore_n k9, 1)) (hi : (k9 : Nat) = i) (hn : i < L.length) (k : KQ s0 l M c hB (pc + 1) (L.set i (some (.ref x))) st g κ P) : KQ s0 l M c hB pc L (.ref x :: st) g κ P := fun h hM => q_astore_n hd hi hn (k h hM)
theorem k_astore {i : Nat} {x : Nat} (hd : decode (iC M) pc = .ok (.astore i, 2)) (hn : i < L.length) (k : KQ s0 l M c hB (pc + 2) (L.set i (some (.ref x))) st g κ P) : KQ s0 l M c hB pc L (.ref x :: st) g κ P := fun h hM => q_astore hd hn (k h hM)
theorem k_iinc {i : Nat} {n : Int} {x : Int32} (hd : decode (iC M) pc = .ok (.iinc i n, 3)) (hl : L[i]? = some (some (.int x))) (k : KQ s0 l M c hB (pc + 3) (L.set i (some (.int (x + Int32.ofInt n)))) st g κ P) : KQ s0 l M c hB pc L st g κ P := fun h hM => q_iinc hd hl (k h hM)
theorem k_if_eq {x : Int32} {off : Int} {tgt : Nat} (hd : decode (iC M) pc = .ok (.ifCond .eq off, 3)) (ht : (pc : Int) + off = (tgt : Int)) (kt : x = 0 → KQ s0 l M c hB tgt L st g κ P) (kf : ¬ x = 0 → KQ s0 l M c hB (pc + 3) L st g κ P) : KQ s0 l M c hB pc L (.int x :: st) g κ P := fun h hM => q_if_eq hd ht (fun c => kt c h hM) (fun c => kf c h hM)
theorem k_icmp_eq {x y : Int32} {off : Int} {tgt : Nat} (hd : decode (iC M) pc = .ok (.if_icmp .eq off, 3)) (ht : (pc : Int) + off = (tgt : Int)) (kt : x = y → KQ s0 l M c hB tgt L st g κ P) (kf : ¬ x = y → KQ s0 l M c hB (pc + 3) L st g κ P) : KQ s0 l M c hB pc L (.int y :: .int x :: st) g κ P := fun h hM => q_icmp_eq hd ht (fun c => kt c h hM) (fun c => kf c h hM)
theorem k_if_ne {x : Int32} {off : Int} {tgt : Nat} (hd : decode (iC M) pc = .ok (.ifCond .ne off, 3)) (ht : (pc : Int) + off = (tgt : Int)) (kt : ¬ x = 0 → KQ s0 l M c hB tgt L st g κ P) (kf : x = 0 → KQ s0 l M c hB (pc + 3) L st g κ P) : KQ s0 l M c hB pc L (.int x :: st) g κ P := fun h hM => q_if_ne hd ht (fun c => kt c h hM) (fun c => kf c h hM)
theorem k_icmp_ne {x y : Int32} {off : Int} {tgt : Nat} (hd : decode (iC M) pc = .ok (.if_icmp .ne off, 3)) (ht : (pc : Int) + off = (tgt : Int)) (kt : ¬ x = y → KQ s0 l M c hB tgt L st g κ P) (kf : x = y → KQ s0 l M c hB (pc + 3) L st g κ P) : KQ s0 l M c hB pc L (.int y :: .int x :: st) g κ P := fun h hM => q_icmp_ne hd ht (fun c => kt c h hM) (fun c => kf c h hM)
theorem k_if_lt {x : Int32} {off : Int} {tgt : Nat} (hd : decode (iC M) pc = .ok (.ifCond .lt off, 3)) (ht : (pc : Int) + off = (tgt : Int)) (kt : x < 0 → KQ s0 l M c hB tgt L st g κ P) (kf : ¬ x < 0 → KQ s0 l M c hB (pc + 3) L st g κ P) : KQ s0 l M c hB pc L (.int x :: st) g κ P := fun h hM => q_if_lt hd ht (fun c => kt c h hM) (fun c => kf c h hM)
theorem k_icmp_lt {x y : Int32} {off : Int} {tgt : Nat} (hd : decode (iC M) pc = .ok (.if_icmp .lt off, 3)) (ht : (pc : Int) + off = (tgt : Int)) (kt : x < y → KQ s0 l M c hB tgt L st g κ P) (kf : ¬ x < y → KQ s0 l M c hB (pc + 3) L st g κ P) : KQ s0 l M c hB pc L (.int y :: .int x :: st) g κ P := fun h hM => q_icmp_lt hd ht (fun c => kt c h hM) (fun c => kf c h hM)
theorem k_if_ge {x : Int32} {off : Int} {tgt : Nat} (hd : decode (iC M) pc = .ok (.ifCond .ge off, 3)) (ht : (pc : Int) + off = (tgt : Int)) (kt : 0 ≤ x → KQ s0 l M c hB tgt L st g κ P) (kf : ¬ 0 ≤ x → KQ s0 l M c hB (pc + 3) L st g κ P) : KQ s0 l M c hB pc L (.int x :: st) g κ P := fun h hM => q_if_ge hd ht (fun c => kt c h hM) (fun c => kf c h hM)
theorem k_icmp_ge {x y : Int32} {off : Int} {tgt : Nat} (hd : decode (iC M) pc = .ok (.if_icmp .ge off, 3)) (ht : (pc : Int) + off = (tgt : Int)) (kt : y ≤ x → KQ s0 l M c hB tgt L st g κ P) (kf : ¬ y ≤ x → KQ s0 l M c hB (pc + 3) L st g κ P) : KQ s0 l M c hB pc L (.int y :: .int x :: st) g κ P := fun h hM => q_icmp_ge hd ht (fun c => kt c h hM) (fun c => kf c h hM)
theorem k_if_gt {x : Int32} {off : Int} {tgt : Nat} (hd : decode (iC M) pc = .ok (.ifCond .gt off, 3)) (ht : (pc : Int) + off = (tgt : Int)) (kt : 0 < x → KQ s0 l M c hB tgt L st g κ P) (kf : ¬ 0 < x → KQ s0 l M c hB (pc + 3) L st g κ P) : KQ s0 l M c hB pc L (.int x :: st) g κ P := fun h hM => q_if_gt hd ht (fun c => kt c h hM) (fun c => kf c h hM)
theorem k_icmp_gt {x y : Int32} {off : Int} {tgt : Nat} (hd : decode (iC M) pc = .ok (.if_icmp .gt off, 3)) (ht : (pc : Int) + off = (tgt : Int)) (kt : y < x → KQ s0 l M c hB tgt L st g κ P) (kf : ¬ y < x → KQ s0 l M c hB (pc + 3) L st g κ P) : KQ s0 l M c hB pc L (.int y :: .int x :: st) g κ P := fun h hM => q_icmp_gt hd ht (fun c => kt c h hM) (fun c => kf c h hM)
theorem k_if_le {x : Int32} {off : Int} {tgt : Nat} (hd : decode (iC M) pc = .ok (.ifCond .le off, 3)) (ht : (pc : Int) + off = (tgt : Int)) (kt : x ≤ 0 → KQ s0 l M c hB tgt L st g κ P) (kf : ¬ x ≤ 0 → KQ s0 l M c hB (pc + 3) L st g κ P) : KQ s0 l M c hB pc L (.int x :: st) g κ P := fun h hM => q_if_le hd ht (fun c => kt c h hM) (fun c => kf c h hM)
theorem k_icmp_le {x y : Int32} {off : Int} {tgt : Nat} (hd : decode (iC M) pc = .ok (.if_icmp .le off, 3)) (ht : (pc : Int) + off = (tgt : Int)) (kt : x ≤ y → KQ s0 l M c hB tgt L st g κ P) (kf : ¬ x ≤ y → KQ s0 l M c hB (pc + 3) L st g κ P) : KQ s0 l M c hB pc L (.int y :: .int x :: st) g κ P := fun h hM => q_icmp_le hd ht (fun c => kt c h hM) (fun c => kf c h hM)
theorem k_goto {off : Int} {tgt : Nat} (hd : decode (iC M) pc = .ok (.goto off, 3)) (ht : (pc : Int) + off = (tgt : Int)) (k : KQ s0 l M c hB tgt L st g κ P) : KQ s0 l M c hB pc L st g κ P := fun h hM => q_goto hd ht (k h hM)
theorem k_tableOut {dflt lo hi : Int} {offs : Array Int} {len : Nat} {x : Int32} {tgt : Nat} (hd : decode (iC M) pc = .ok (.tableswitch dflt lo hi offs, len)) (hx : x.toInt < lo ∨ hi < x.toInt) (ht : (pc : Int) + dflt = (tgt : Int)) (k : KQ s0 l M c hB tgt L st g κ P) : KQ s0 l M c hB pc L (.int x :: st) g κ P := fun h hM => q_tableOut hd hx ht (k h hM)
theorem k_tableIn {dflt lo hi : Int} {offs : Array Int} {len : Nat} {x : Int32} {off : Int} {tgt : Nat} (hd : decode (iC M) pc = .ok (.tableswitch dflt lo hi offs, len)) (h1 : ¬ x.toInt < lo) (h2 : ¬ hi < x.toInt) (ho : offs[(x.toInt - lo).toNat]? = some off) (ht : (pc : Int) + off = (tgt : Int)) (k : KQ s0 l M c hB tgt L st g κ P) : KQ s0 l M c hB pc L (.int x :: st) g κ P := fun h hM => q_tableIn hd h1 h2 ho ht (k h hM)
theorem k_null (hd : decode (iC M) pc = .ok (.aconst_null, 1)) (k : KQ s0 l M c hB (pc + 1) L (.null :: st) g κ P) : KQ s0 l M c hB pc L st g κ P := fun h hM => q_null hd (k h hM)
theorem k_ldc {idx : Nat} {v : Int32} (hd : decode (iC M) pc = .ok (.ldc idx, 2)) (hw : Cond.constant (iY M).cls idx v ∈ lw_tbl) (k : KQ s0 l M c hB (pc + 2) L (.int v :: st) g κ P) : KQ s0 l M c hB pc L st g κ P := fun h hM => q_ldc hd hw (k h hM)
theorem k_aload_nN {k9 : Fin 4} {i : Nat} (hd : decode (iC M) pc = .ok (.aload_n k9, 1)) (hi : (k9 : Nat) = i) (hl : L[i]? = some (some .null)) (k : KQ s0 l M c hB (pc + 1) L (.null :: st) g κ P) : KQ s0 l M c hB pc L st g κ P := fun h hM => q_aload_nN hd hi hl (k h hM)
theorem k_astore_nN {k9 : Fin 4} {i : Nat} (hd : decode (iC M) pc = .ok (.astore_n k9, 1)) (hi : (k9 : Nat) = i) (hn : i < L.length) (k : KQ s0 l M c hB (pc + 1) (L.set i (some (.null))) st g κ P) : KQ s0 l M c hB pc L (.null :: st) g κ P := fun h hM => q_astore_nN hd hi hn (k h hM)
theorem k_ifnonnull {x : Nat} {off : Int} {tgt : Nat} (hd : decode (iC M) pc = .ok (.ifnonnull off, 3)) (ht : (pc : Int) + off = (tgt : Int)) (k : KQ s0 l M c hB tgt L st g κ P) : KQ s0 l M c hB pc L (.ref x :: st) g κ P := fun h hM => q_ifnonnull hd ht (k h hM)
theorem k_ifnonnullN {off : Int} (hd : decode (iC M) pc = .ok (.ifnonnull off, 3)) (k : KQ s0 l M c hB (pc + 3) L st g κ P) : KQ s0 l M c hB pc L (.null :: st) g κ P := fun h hM => q_ifnonnullN hd (k h hM)
theorem k_ifnull {x : Nat} {off : Int} (hd : decode (iC M) pc = .ok (.ifnull off, 3)) (k : KQ s0 l M c hB (pc + 3) L st g κ P) : KQ s0 l M c hB pc L (.ref x :: st) g κ P := fun h hM => q_ifnull hd (k h hM)
theorem k_ifnullN {off : Int} {tgt : Nat} (hd : decode (iC M) pc = .ok (.ifnull off, 3)) (ht : (pc : Int) + off = (tgt : Int)) (k : KQ s0 l M c hB tgt L st g κ P) : KQ s0 l M c hB pc L (.null :: st) g κ P := fun h hM => q_ifnullN hd ht (k h hM)
theorem k_iinc1 {i x : Nat} (hd : decode (iC M) pc = .ok (.iinc i 1, 3)) (hl : L[i]? = some (some (.int (nI x)))) (k : KQ s0 l M c hB (pc + 3) (L.set i (some (.int (nI (x + 1))))) st g κ P) : KQ s0 l M c hB pc L st g κ P := by
  refine k_iinc hd hl ?_
  have e : nI x + Int32.ofInt 1 = nI (x + 1) := nI_1 x
  rw [e]
  exact k
theorem k_iaddN {a b : Nat} (hd : decode (iC M) pc = .ok (.iadd, 1)) (k : KQ s0 l M c hB (pc + 1) L (.int (nI (a + b)) :: st) g κ P) : KQ s0 l M c hB pc L (.int (nI b) :: .int (nI a) :: st) g κ P := k_iadd hd (by rw [nI_add]; exact k)
theorem k_imulN {a b : Nat} (hd : decode (iC M) pc = .ok (.imul, 1)) (k : KQ s0 l M c hB (pc + 1) L (.int (nI (a * b)) :: st) g κ P) : KQ s0 l M c hB pc L (.int (nI b) :: .int (nI a) :: st) g κ P := k_imul hd (by rw [pk_mul]; exact k)
theorem k_isubN {a b : Nat} (hd : decode (iC M) pc = .ok (.isub, 1)) (h : b ≤ a) (k : KQ s0 l M c hB (pc + 1) L (.int (nI (a - b)) :: st) g κ P) : KQ s0 l M c hB pc L (.int (nI b) :: .int (nI a) :: st) g κ P := k_isub hd (by rw [pk_sub h]; exact k)
theorem k_idivN {a b : Nat} (hd : decode (iC M) pc = .ok (.idiv, 1)) (h : a < 2 ^ 31 ∧ 0 < b ∧ b < 2 ^ 31) (k : KQ s0 l M c hB (pc + 1) L (.int (nI (a / b)) :: st) g κ P) : KQ s0 l M c hB pc L (.int (nI b) :: .int (nI a) :: st) g κ P := k_idiv hd (nI_ne0 h.2.1 h.2.2) (by rw [pk_div h.1 h.2.1 h.2.2]; exact k)
theorem k_iremN {a b : Nat} (hd : decode (iC M) pc = .ok (.irem, 1)) (h : a < 2 ^ 31 ∧ 0 < b ∧ b < 2 ^ 31) (k : KQ s0 l M c hB (pc + 1) L (.int (nI (a % b)) :: st) g κ P) : KQ s0 l M c hB pc L (.int (nI b) :: .int (nI a) :: st) g κ P := k_irem hd (nI_ne0 h.2.1 h.2.2) (by rw [pk_rem h.1 h.2.1 h.2.2]; exact k)
end KRules

