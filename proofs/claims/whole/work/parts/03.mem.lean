/-! ===== a method's numbers; the memory: what every cell holds, by address and place ===== -/
def iY (M : MI) : MethodName := M.1
def iC (M : MI) : ByteArray := M.2.1
def iL (M : MI) : Nat := M.2.2.1
def iR (M : MI) : Option FieldType := M.2.2.2.1
def iH (M : MI) : List (Nat × Nat × Nat × Nat) := M.2.2.2.2.1
def iF (M : MI) : Nat := M.2.2.2.2.2.1
def iW (M : MI) : Nat := M.2.2.2.2.2.2
abbrev Out : Type := Option Value ⊕ String
/-- kinds, lengths, ints, references, longs, the next address, the slots used -/
def Mem : Type := (Nat → Nat) × (Nat → Nat) × (Nat → Nat → Int32) × (Nat → Nat → Option Nat) × (Nat → Nat → Int64) × Nat × Nat
def mK (h : Mem) : Nat → Nat := h.1
def mL (h : Mem) : Nat → Nat := h.2.1
def mI (h : Mem) : Nat → Nat → Int32 := h.2.2.1
def mR (h : Mem) : Nat → Nat → Option Nat := h.2.2.2.1
def mJ (h : Mem) : Nat → Nat → Int64 := h.2.2.2.2.1
def mN (h : Mem) : Nat := h.2.2.2.2.2.1
def mU (h : Mem) : Nat := h.2.2.2.2.2.2
def sI (h : Mem) (a k : Nat) (v : Int32) : Mem := (mK h, mL h, (fun b j => if b = a ∧ j = k then v else mI h b j), mR h, mJ h, mN h, mU h)
def sR (h : Mem) (a k : Nat) (v : Option Nat) : Mem := (mK h, mL h, mI h, (fun b j => if b = a ∧ j = k then v else mR h b j), mJ h, mN h, mU h)
def sJ (h : Mem) (a k : Nat) (v : Int64) : Mem := (mK h, mL h, mI h, mR h, (fun b j => if b = a ∧ j = k then v else mJ h b j), mN h, mU h)
/-- n ints from place sp of a to place dp of b -/
def cpI (h : Mem) (a sp b dp n : Nat) : Mem := (mK h, mL h, (fun c j => if c = b ∧ dp ≤ j ∧ j < dp + n then mI h a (sp + (j - dp)) else mI h c j), mR h, mJ h, mN h, mU h)
/-- a new cell of kind kd with len places, which takes n slots -/
def nw (h : Mem) (kd len n : Nat) : Mem := ((fun b => if b = mN h then kd else mK h b), (fun b => if b = mN h then len else mL h b), (fun b j => if b = mN h then 0 else mI h b j), (fun b j => if b = mN h then none else mR h b j), (fun b j => if b = mN h then 0 else mJ h b j), mN h + 1, mU h + n)
theorem mK_sI (h : Mem) (a k : Nat) (v : Int32) : mK (sI h a k v) = mK h := rfl
theorem mL_sI (h : Mem) (a k : Nat) (v : Int32) : mL (sI h a k v) = mL h := rfl
theorem mR_sI (h : Mem) (a k : Nat) (v : Int32) : mR (sI h a k v) = mR h := rfl
theorem mJ_sI (h : Mem) (a k : Nat) (v : Int32) : mJ (sI h a k v) = mJ h := rfl
theorem mN_sI (h : Mem) (a k : Nat) (v : Int32) : mN (sI h a k v) = mN h := rfl
theorem mU_sI (h : Mem) (a k : Nat) (v : Int32) : mU (sI h a k v) = mU h := rfl
theorem mI_sI (h : Mem) (a k : Nat) (v : Int32) (b j : Nat) : mI (sI h a k v) b j = if b = a ∧ j = k then v else mI h b j := rfl
theorem mK_sR (h : Mem) (a k : Nat) (v : Option Nat) : mK (sR h a k v) = mK h := rfl
theorem mL_sR (h : Mem) (a k : Nat) (v : Option Nat) : mL (sR h a k v) = mL h := rfl
theorem mI_sR (h : Mem) (a k : Nat) (v : Option Nat) : mI (sR h a k v) = mI h := rfl
theorem mJ_sR (h : Mem) (a k : Nat) (v : Option Nat) : mJ (sR h a k v) = mJ h := rfl
theorem mN_sR (h : Mem) (a k : Nat) (v : Option Nat) : mN (sR h a k v) = mN h := rfl
theorem mU_sR (h : Mem) (a k : Nat) (v : Option Nat) : mU (sR h a k v) = mU h := rfl
theorem mR_sR (h : Mem) (a k : Nat) (v : Option Nat) (b j : Nat) : mR (sR h a k v) b j = if b = a ∧ j = k then v else mR h b j := rfl
theorem mK_cpI (h : Mem) (a sp b dp n : Nat) : mK (cpI h a sp b dp n) = mK h := rfl
theorem mL_cpI (h : Mem) (a sp b dp n : Nat) : mL (cpI h a sp b dp n) = mL h := rfl
theorem mR_cpI (h : Mem) (a sp b dp n : Nat) : mR (cpI h a sp b dp n) = mR h := rfl
theorem mJ_cpI (h : Mem) (a sp b dp n : Nat) : mJ (cpI h a sp b dp n) = mJ h := rfl
theorem mN_cpI (h : Mem) (a sp b dp n : Nat) : mN (cpI h a sp b dp n) = mN h := rfl
theorem mU_cpI (h : Mem) (a sp b dp n : Nat) : mU (cpI h a sp b dp n) = mU h := rfl
theorem mI_cpI (h : Mem) (a sp b dp n c j : Nat) : mI (cpI h a sp b dp n) c j = if c = b ∧ dp ≤ j ∧ j < dp + n then mI h a (sp + (j - dp)) else mI h c j := rfl
theorem mN_nw (h : Mem) (kd len n : Nat) : mN (nw h kd len n) = mN h + 1 := rfl
theorem mU_nw (h : Mem) (kd len n : Nat) : mU (nw h kd len n) = mU h + n := rfl
theorem mK_nw (h : Mem) (kd len n b : Nat) : mK (nw h kd len n) b = if b = mN h then kd else mK h b := rfl
theorem mL_nw (h : Mem) (kd len n b : Nat) : mL (nw h kd len n) b = if b = mN h then len else mL h b := rfl
theorem mI_nw (h : Mem) (kd len n b j : Nat) : mI (nw h kd len n) b j = if b = mN h then 0 else mI h b j := rfl
theorem mR_nw (h : Mem) (kd len n b j : Nat) : mR (nw h kd len n) b j = if b = mN h then none else mR h b j := rfl
theorem mJ_nw (h : Mem) (kd len n b j : Nat) : mJ (nw h kd len n) b j = if b = mN h then 0 else mJ h b j := rfl
/-! ===== the memory and the machine's heap ===== -/
def xC (s0 : State) (ci : Nat) : ClassId := (s0.vm.findClass (cnm ci)).getD 0
def xI (s0 : State) (ci k : Nat) : Nat := match s0.fieldFound? (cT ci k).1 (cT ci k).2.1 (cT ci k).2.2.1 with
  | some q => q.2.2.2.slot
  | none => 0
def fV (h : Mem) (ci a k : Nat) : Value := if isR ci k = true then va_rf (mR h a k) else .int (mI h a k)
def aOK (s0 : State) (ty : FieldType) (n : Nat) (f : Nat → Value) (cell : Cell) : Prop := s0.isArrayOf cell ty ∧ cell.vm ≠ .unknown ∧ cell.slots.size = n ∧ n < 2 ^ 31 ∧ ∀ j, j < n → cell.slots[j]? = some (f j)
def rOK (s0 : State) (C : String) (n : Nat) (f : Nat → Value) (cell : Cell) : Prop := aOK s0 (.object C) n f cell ∧ ∃ kA comp, s0.vm.classes[cell.cls]? = some kA ∧ kA.kind = .array comp (.object C) ∧ s0.vm.findClass C = some comp
def oOK (s0 : State) (h : Mem) (ci a : Nat) (cell : Cell) : Prop := ci < 8 ∧ cell.cls = xC s0 ci ∧ cell.vm = .none ∧ ∀ j, j < cN ci → cell.slots[xI s0 ci j]? = some (fV h ci a j)
/-- kinds: 1 to 8 objects of the classes 0 to 7; 11 int[], 12 byte[], 13 long[], 14 Picture[], 15 Plane[]; 21 int[] that nobody writes -/
def cOK (s0 : State) (h : Mem) (a : Nat) (cell : Cell) : Prop :=
  if mK h a = 11 ∨ mK h a = 21 then aOK s0 .int (mL h a) (fun j => .int (mI h a j)) cell else
  if mK h a = 12 then aOK s0 .byte (mL h a) (fun j => .int (mI h a j)) cell else
  if mK h a = 13 then aOK s0 .long (mL h a) (fun j => .long (mJ h a j)) cell else
  if mK h a = 14 then rOK s0 (cnm 1) (mL h a) (fun j => va_rf (mR h a j)) cell else
  if mK h a = 15 then rOK s0 (cnm 2) (mL h a) (fun j => va_rf (mR h a j)) cell else
  oOK s0 h (mK h a - 1) a cell
def Rep (s0 : State) (h : Mem) (H : Heap) : Prop := H.size = mN h ∧ s0.heap.size ≤ mN h ∧ (∀ q, q < s0.heap.size → H[q]? = s0.heap[q]?) ∧ ∀ a, mK h a ≠ 0 → (∃ cell, H[a]? = some cell ∧ cOK s0 h a cell) ∧ (mK h a = 21 ∨ s0.heap.size ≤ a)
theorem cOK_congr {s0 : State} {h h' : Mem} {b : Nat} {cell : Cell} (hK : mK h' b = mK h b) (hL : mL h' b = mL h b) (hI : ∀ i, mI h' b i = mI h b i) (hR : ∀ i, mR h' b i = mR h b i) (hJ : ∀ i, mJ h' b i = mJ h b i) (hc : cOK s0 h b cell) : cOK s0 h' b cell := by
  unfold cOK oOK fV at hc ⊢
  simp only [hK, hL, hI, hR, hJ]
  exact hc
theorem Rep.upd {s0 : State} {h h' : Mem} {H H' : Heap} {a : Nat} {cell' : Cell} (hr : Rep s0 h H) (ha : s0.heap.size ≤ a) (e1 : H'[a]? = some cell') (e2 : H'.size = H.size) (e3 : ∀ q, q ≠ a → H'[q]? = H[q]?)
    (hN : mN h' = mN h) (hg : ∀ b, b ≠ a → mK h' b = mK h b ∧ mL h' b = mL h b ∧ (∀ i, mI h' b i = mI h b i) ∧ (∀ i, mR h' b i = mR h b i) ∧ ∀ i, mJ h' b i = mJ h b i) (hc : mK h' a ≠ 0 → cOK s0 h' a cell') : Rep s0 h' H' := by
  obtain ⟨r1, r2, r3, r4⟩ := hr
  refine ⟨by rw [e2, hN]; exact r1, by rw [hN]; exact r2, fun q hq => by rw [e3 q (by omega)]; exact r3 q hq, fun b hb => ?_⟩
  by_cases hba : b = a
  · subst hba
    exact ⟨⟨cell', e1, hc hb⟩, Or.inr ha⟩
  · obtain ⟨g1, g2, g3, g4, g5⟩ := hg b hba
    obtain ⟨⟨c, c1, c2⟩, c3⟩ := r4 b (by rw [← g1]; exact hb)
    exact ⟨⟨c, by rw [e3 b hba]; exact c1, cOK_congr g1 g2 g3 g4 g5 c2⟩, by rw [g1]; exact c3⟩
theorem Rep.new {s0 : State} {h h' : Mem} {H H' : Heap} (hr : Rep s0 h H) (e2 : H'.size = H.size + 1) (e3 : ∀ q, q < H.size → H'[q]? = H[q]?)
    (hN : mN h' = mN h + 1) (hg : ∀ b, b ≠ mN h → mK h' b = mK h b ∧ mL h' b = mL h b ∧ (∀ i, mI h' b i = mI h b i) ∧ (∀ i, mR h' b i = mR h b i) ∧ ∀ i, mJ h' b i = mJ h b i) (hc : mK h' (mN h) ≠ 0 → ∃ cell', H'[H.size]? = some cell' ∧ cOK s0 h' (mN h) cell') : Rep s0 h' H' := by
  obtain ⟨r1, r2, r3, r4⟩ := hr
  refine ⟨by rw [e2, hN, r1], by rw [hN]; omega, fun q hq => by rw [e3 q (by omega)]; exact r3 q hq, fun b hb => ?_⟩
  by_cases hba : b = mN h
  · subst hba
    obtain ⟨c, c1, c2⟩ := hc hb
    exact ⟨⟨c, by rw [← r1]; exact c1, c2⟩, Or.inr r2⟩
  · obtain ⟨g1, g2, g3, g4, g5⟩ := hg b hba
    obtain ⟨⟨c, c1, c2⟩, c3⟩ := r4 b (by rw [← g1]; exact hb)
    exact ⟨⟨c, by rw [e3 b (Array.getElem?_eq_some_iff.mp c1).1]; exact c1, cOK_congr g1 g2 g3 g4 g5 c2⟩, by rw [g1]; exact c3⟩
theorem Rep.newx {s0 : State} {h : Mem} {H H' : Heap} {kd len n : Nat} (hr : Rep s0 h H) (e2 : H'.size = H.size + 1) (e3 : ∀ q, q < H.size → H'[q]? = H[q]?) (hc : kd ≠ 0 → ∃ cell', H'[H.size]? = some cell' ∧ cOK s0 (nw h kd len n) (mN h) cell') : Rep s0 (nw h kd len n) H' :=
  hr.new e2 e3 rfl (fun b hb => by simp [mK_nw, mL_nw, mI_nw, mR_nw, mJ_nw, hb]) (fun hk => hc (by simpa [mK_nw] using hk))
theorem Rep.obj {s0 : State} {h : Mem} {H : Heap} {a ci : Nat} (hr : Rep s0 h H) (hci : ci < 8) (hk : mK h a = ci + 1) : ∃ cell, H[a]? = some cell ∧ cell.cls = xC s0 ci ∧ cell.vm = .none ∧ ∀ j, j < cN ci → cell.slots[xI s0 ci j]? = some (fV h ci a j) := by
  obtain ⟨⟨c, c1, c2⟩, -⟩ := hr.2.2.2 a (by omega)
  unfold cOK at c2
  rw [if_neg (by omega), if_neg (by omega), if_neg (by omega), if_neg (by omega), if_neg (by omega)] at c2
  have e : mK h a - 1 = ci := by omega
  rw [e] at c2
  exact ⟨c, c1, c2.2⟩
theorem Rep.own {s0 : State} {h : Mem} {H : Heap} {a : Nat} (hr : Rep s0 h H) (h1 : mK h a ≠ 0) (h2 : mK h a ≠ 21) : s0.heap.size ≤ a := (hr.2.2.2 a h1).2.elim (fun e => absurd e h2) id
theorem Rep.a11 {s0 : State} {h : Mem} {H : Heap} {a : Nat} (hr : Rep s0 h H) (hk : mK h a = 11 ∨ mK h a = 21) : ∃ cell, H[a]? = some cell ∧ aOK s0 .int (mL h a) (fun j => .int (mI h a j)) cell := by
  obtain ⟨⟨c, c1, c2⟩, -⟩ := hr.2.2.2 a (by omega)
  unfold cOK at c2
  rw [if_pos hk] at c2
  exact ⟨c, c1, c2⟩
theorem Rep.a12 {s0 : State} {h : Mem} {H : Heap} {a : Nat} (hr : Rep s0 h H) (hk : mK h a = 12) : ∃ cell, H[a]? = some cell ∧ aOK s0 .byte (mL h a) (fun j => .int (mI h a j)) cell := by
  obtain ⟨⟨c, c1, c2⟩, -⟩ := hr.2.2.2 a (by omega)
  unfold cOK at c2
  rw [if_neg (by omega), if_pos hk] at c2
  exact ⟨c, c1, c2⟩
theorem Rep.a13 {s0 : State} {h : Mem} {H : Heap} {a : Nat} (hr : Rep s0 h H) (hk : mK h a = 13) : ∃ cell, H[a]? = some cell ∧ aOK s0 .long (mL h a) (fun j => .long (mJ h a j)) cell := by
  obtain ⟨⟨c, c1, c2⟩, -⟩ := hr.2.2.2 a (by omega)
  unfold cOK at c2
  rw [if_neg (by omega), if_neg (by omega), if_pos hk] at c2
  exact ⟨c, c1, c2⟩
/-- kinds 14, 15: arrays of references to objects of the class ci (1, 2) -/
theorem Rep.aq {s0 : State} {h : Mem} {H : Heap} {a ci : Nat} (hr : Rep s0 h H) (hci : ci = 1 ∨ ci = 2) (hk : mK h a = ci + 13) : ∃ cell, H[a]? = some cell ∧ rOK s0 (cnm ci) (mL h a) (fun j => va_rf (mR h a j)) cell := by
  obtain ⟨⟨c, c1, c2⟩, -⟩ := hr.2.2.2 a (by omega)
  unfold cOK at c2
  rcases hci with rfl | rfl
  · rw [if_neg (by omega), if_neg (by omega), if_neg (by omega), if_pos (by omega)] at c2
    exact ⟨c, c1, c2⟩
  · rw [if_neg (by omega), if_neg (by omega), if_neg (by omega), if_neg (by omega), if_pos (by omega)] at c2
    exact ⟨c, c1, c2⟩
theorem cOK_obj {s0 : State} {h : Mem} {a ci : Nat} {cell : Cell} (hci : ci < 8) (hk : mK h a = ci + 1) (h1 : cell.cls = xC s0 ci) (h2 : cell.vm = .none) (h3 : ∀ j, j < cN ci → cell.slots[xI s0 ci j]? = some (fV h ci a j)) : cOK s0 h a cell := by
  unfold cOK
  rw [if_neg (by omega), if_neg (by omega), if_neg (by omega), if_neg (by omega), if_neg (by omega)]
  have e : mK h a - 1 = ci := by omega
  rw [e]
  exact ⟨hci, h1, h2, h3⟩
theorem aOK.set {s0 : State} {ty : FieldType} {n j : Nat} {f g : Nat → Value} {cell : Cell} {v : Value} (h : aOK s0 ty n f cell) (hj : j < n) (hg : ∀ i, i < n → g i = if i = j then v else f i) : aOK s0 ty n g (cell.setSlot j v) := by
  obtain ⟨h1, h2, h3, h4, h5⟩ := h
  refine ⟨h1, h2, by rw [k2_slotsz]; exact h3, h4, fun i hi => ?_⟩
  rw [hg i hi]
  by_cases e : i = j
  · subst e
    simp [Cell.setSlot, h3, hi]
  · rw [if_neg e]
    have e2 : (cell.setSlot j v).slots[i]? = cell.slots[i]? := by simp [Cell.setSlot, Array.getElem?_setIfInBounds, Ne.symm e]
    rw [e2]
    exact h5 i hi
