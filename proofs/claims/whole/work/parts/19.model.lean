/-! ===== the reference: its state as numbers by field and place ===== -/
abbrev Sg : Type := Nat → Nat → Int32
def su (σ : Sg) (k j : Nat) (v : Int32) : Sg := fun a b => if a = k ∧ b = j then v else σ a b
/-- the place of a field's array behind the object; 0: no array -/
def aOff (k : Nat) : Nat := match k with
  | 1 => 1 | 3 => 2 | 9 => 3 | 10 => 4 | 11 => 5 | 18 => 6 | 19 => 7 | 28 => 8 | 29 => 9 | 33 => 10 | 37 => 11 | 38 => 12 | 39 => 13 | 42 => 14 | _ => 0
def aLen (k : Nat) : Nat := match k with
  | 1 => 4000 | 3 => 32000 | 9 => 6144 | 10 => 6144 | 11 => 6144 | 18 => 122880 | 19 => 80 | 28 => 4 | 29 => 4 | 33 => 3 | 37 => 64 | 38 => 64 | 39 => 64 | 42 => 5 | _ => 0
def aKd (k : Nat) : Nat := match k with
  | 1 => 12 | 3 => 12 | 18 => 12 | _ => 11
theorem aOff_inj : ∀ k, k < 43 → ∀ k', k' < 43 → aOff k ≠ 0 → aOff k = aOff k' → k = k' := by decide +kernel
theorem aOff_lt : ∀ k, k < 43 → aOff k < 15 := by decide +kernel
theorem aOff_isR : ∀ k, k < 43 → (isR 7 k = true ↔ aOff k ≠ 0) := by decide +kernel
def wvT (j : Nat) : Int32 := ([2896, 2896, 2896, 2896, 4017, 3406, 2276, 799, 3784, 1567, -1567, -3784, 3406, -799, -4017, -2276, 2896, -2896, -2896, 2896, 2276, -4017, 799, 3406, 1567, -3784, 3784, -1567, 799, -2276, 3406, -4017] : List Int32).getD j 0
/-- the reference's static table -/
def WV (s0 : State) (h : Mem) : Prop := mK h (sA s0 2) = 21 ∧ mL h (sA s0 2) = 32 ∧ ∀ j, j < 32 → mI h (sA s0 2) j = wvT j
def MRep (s0 : State) (h : Mem) (m : Nat) (σ : Sg) : Prop := WV s0 h ∧ mK h m = 8 ∧ (∀ k, k < 43 → aOff k = 0 → mI h m k = σ k 0) ∧ ∀ k, k < 43 → aOff k ≠ 0 → mR h m k = some (m + aOff k) ∧ mK h (m + aOff k) = aKd k ∧ mL h (m + aOff k) = aLen k ∧ ∀ j, j < aLen k → mI h (m + aOff k) j = σ k j
/-- outside of [lo, hi) nothing has changed -/
def fr (lo hi : Nat) (h h' : Mem) : Prop := mN h' = mN h ∧ mU h' = mU h ∧ ∀ a, (a < lo ∨ hi ≤ a) → mK h' a = mK h a ∧ mL h' a = mL h a ∧ (∀ j, mI h' a j = mI h a j) ∧ (∀ j, mR h' a j = mR h a j) ∧ ∀ j, mJ h' a j = mJ h a j
theorem fr.refl (lo hi : Nat) (h : Mem) : fr lo hi h h := ⟨rfl, rfl, fun _ _ => ⟨rfl, rfl, fun _ => rfl, fun _ => rfl, fun _ => rfl⟩⟩
theorem fr.sI {lo hi : Nat} {h h' : Mem} {a k : Nat} {v : Int32} (f : fr lo hi h h') (ha : lo ≤ a ∧ a < hi) : fr lo hi h (sI h' a k v) := by
  refine ⟨f.1, f.2.1, fun b hb => ?_⟩
  obtain ⟨f1, f2, f3, f4, f5⟩ := f.2.2 b hb
  have hne : b ≠ a := by omega
  exact ⟨f1, f2, fun j => by rw [mI_sI, if_neg (fun e => hne e.1)]; exact f3 j, f4, f5⟩
theorem WV.sI {s0 : State} {h : Mem} {a k : Nat} {v : Int32} (w : WV s0 h) (ha : mK h a ≠ 21) : WV s0 (sI h a k v) := by
  have hne : sA s0 2 ≠ a := fun e => ha (by rw [← e]; exact w.1)
  exact ⟨w.1, w.2.1, fun j hj => by rw [mI_sI, if_neg (fun z => hne z.1)]; exact w.2.2 j hj⟩
def MF (s0 : State) (hB h : Mem) (m : Nat) (σ : Sg) : Prop := MRep s0 h m σ ∧ fr m (m + 15) hB h
theorem su_at (σ : Sg) (k j : Nat) (v : Int32) : su σ k j v k j = v := by simp [su]
theorem su_k {σ : Sg} {k j a b : Nat} {v : Int32} (h : a ≠ k) : su σ k j v a b = σ a b := by simp [su, h]
theorem MF.sc {s0 : State} {hB h : Mem} {m : Nat} {σ : Sg} {k : Nat} {v : Int32} (hM : MF s0 hB h m σ) (hk : k < 43) (hs : aOff k = 0) : MF s0 hB (sI h m k v) m (su σ k 0 v) := by
  obtain ⟨⟨hw, h1, h2, h3⟩, hf⟩ := hM
  refine ⟨⟨hw.sI (by rw [h1]; decide), h1, fun k' hk' hs' => ?_, fun k' hk' hs' => ?_⟩, hf.sI ⟨Nat.le_refl _, by omega⟩⟩
  · rw [mI_sI]
    by_cases e : k' = k
    · subst e
      simp [su]
    · rw [if_neg (fun z => e z.2), su_k e]
      exact h2 k' hk' hs'
  · obtain ⟨a1, a2, a3, a4⟩ := h3 k' hk' hs'
    have e : k' ≠ k := fun z => hs' (by rw [z]; exact hs)
    refine ⟨a1, a2, a3, fun j hj => ?_⟩
    rw [mI_sI, if_neg (fun z => by have := z.1; omega), su_k e]
    exact a4 j hj
theorem MF.ar {s0 : State} {hB h : Mem} {m : Nat} {σ : Sg} {k j : Nat} {v : Int32} (hM : MF s0 hB h m σ) (hk : k < 43) (hs : aOff k ≠ 0) : MF s0 hB (sI h (m + aOff k) j v) m (su σ k j v) := by
  obtain ⟨⟨hw, h1, h2, h3⟩, hf⟩ := hM
  have hl := aOff_lt k hk
  refine ⟨⟨hw.sI (by rw [(h3 k hk hs).2.1]; unfold aKd; split <;> decide), h1, fun k' hk' hs' => ?_, fun k' hk' hs' => ?_⟩, hf.sI ⟨by omega, by omega⟩⟩
  · have e : k' ≠ k := fun z => hs (by rw [← z]; exact hs')
    rw [mI_sI, if_neg (fun z => by have := z.1; omega), su_k e]
    exact h2 k' hk' hs'
  · obtain ⟨a1, a2, a3, a4⟩ := h3 k' hk' hs'
    refine ⟨a1, a2, a3, fun i hi => ?_⟩
    rw [mI_sI]
    by_cases e : k' = k
    · subst e
      by_cases e2 : i = j
      · subst e2
        simp [su]
      · rw [if_neg (fun z => e2 z.2)]
        simp only [su, e2, and_false, if_false]
        exact a4 i hi
    · rw [if_neg (fun z => e (aOff_inj k' hk' k hk hs' (by have := z.1; omega))), su_k e]
      exact a4 i hi
/-- the method ends, from this point, with an answer and a state as P says -/
def GQ (s0 : State) (l : Launch) (M : MI) (hB : Mem) (m pc : Nat) (L : List (Option Value)) (st : List Value) (σ : Sg) (P : Option Value → Sg → Prop) : Prop :=
  ∀ h, MF s0 hB h m σ → RQ s0 l M hB pc L st h (fun o h' => ∃ r σ', o = .inl r ∧ MF s0 hB h' m σ' ∧ P r σ')
/-- the reference's method M, called on m with these arguments in the state σ -/
def GC (s0 : State) (l : Launch) (M : MI) (m : Nat) (args : List Value) (σ : Sg) (P : Option Value → Sg → Prop) : Prop :=
  ∀ h, MRep s0 h m σ → CQ s0 l M (.ref m :: args) h (fun o h' => ∃ r σ', o = .inl r ∧ MF s0 h h' m σ' ∧ P r σ')
theorem fr.trans {lo hi : Nat} {a b c : Mem} (f : fr lo hi a b) (g : fr lo hi b c) : fr lo hi a c := by
  refine ⟨g.1.trans f.1, g.2.1.trans f.2.1, fun x hx => ?_⟩
  obtain ⟨f1, f2, f3, f4, f5⟩ := f.2.2 x hx
  obtain ⟨g1, g2, g3, g4, g5⟩ := g.2.2 x hx
  exact ⟨g1.trans f1, g2.trans f2, fun j => (g3 j).trans (f3 j), fun j => (g4 j).trans (f4 j), fun j => (g5 j).trans (f5 j)⟩
section GRules
variable {s0 : State} {l : Launch} {M M' : MI} {hB : Mem} {m pc : Nat} {L : List (Option Value)} {st st0 rest : List Value} {σ : Sg} {P P' : Option Value → Sg → Prop} {As : List Value}
theorem g_in (hy : plainName (iY M).cls = true) (hH : iH M = []) (hc : As.all (fun v => v.category == 1) = true) (hn : As.length + 1 ≤ iL M) (k : ∀ hB, GQ s0 l M hB m 0 (ent (.ref m :: As) (iL M)) [] σ P) : GC s0 l M m As σ P := fun h hM =>
  c_in hy hH (by rw [List.all_cons, hc]; rfl) hn (k h h ⟨hM, fr.refl _ _ _⟩)
theorem GC.mono {args : List Value} (k : GC s0 l M m args σ P) (f : ∀ r σ', P r σ' → P' r σ') : GC s0 l M m args σ P' := fun h hM => (k h hM).mono (fun o h' ⟨r, σ', a, b, c⟩ => ⟨r, σ', a, b, f r σ' c⟩)
theorem GQ.mono (k : GQ s0 l M hB m pc L st σ P) (f : ∀ r σ', P r σ' → P' r σ') : GQ s0 l M hB m pc L st σ P' := fun h hM => (k h hM).mono (fun o h' ⟨r, σ', a, b, c⟩ => ⟨r, σ', a, b, f r σ' c⟩)
theorem g_get {idx k : Nat} (hd : decode (iC M) pc = .ok (.getfield idx, 3)) (hf : FL (iY M).cls idx 7 k) (hs : aOff k = 0) (kk : GQ s0 l M hB m (pc + 3) L (.int (σ k 0) :: st) σ P) : GQ s0 l M hB m pc L (.ref m :: st) σ P := fun h hM => by
  have hk : k < 43 := hf.2.1
  refine q_getI hd hf ?_ hM.1.2.1 ?_
  · cases h9 : isR 7 k with
    | false => rfl
    | true => exact absurd hs ((aOff_isR k hk).mp h9)
  · rw [hM.1.2.2.1 k hk hs]
    exact kk h hM
theorem g_getA {idx k : Nat} (hd : decode (iC M) pc = .ok (.getfield idx, 3)) (hf : FL (iY M).cls idx 7 k) (hs : aOff k ≠ 0) (kk : GQ s0 l M hB m (pc + 3) L (.ref (m + aOff k) :: st) σ P) : GQ s0 l M hB m pc L (.ref m :: st) σ P := fun h hM => by
  have hk : k < 43 := hf.2.1
  exact q_getR hd hf ((aOff_isR k hk).mpr hs) hM.1.2.1 (hM.1.2.2.2 k hk hs).1 (kk h hM)
theorem g_put {idx k : Nat} {x : Int32} (hd : decode (iC M) pc = .ok (.putfield idx, 3)) (hf : FL (iY M).cls idx 7 k) (hs : aOff k = 0) (hn : narrow (cY 7 k) (.int x) = .int x) (hfit : fits (cY 7 k) (.int x) = true) (hfin : (cT 7 k).2.2.2 = false) (kk : GQ s0 l M hB m (pc + 3) L st (su σ k 0 x) P) : GQ s0 l M hB m pc L (.int x :: .ref m :: st) σ P := fun h hM => by
  have hk : k < 43 := hf.2.1
  refine q_putI hd hf ?_ hM.1.2.1 hn hfit (Or.inl hfin) (kk _ (hM.sc hk hs))
  cases h9 : isR 7 k with
  | false => rfl
  | true => exact absurd hs ((aOff_isR k hk).mp h9)
theorem g_iaload {k : Nat} {j : Int32} {a : Nat} (hd : decode (iC M) pc = .ok (.iaload, 1)) (ha : a = m + aOff k) (hk : k < 43) (hs : aOff k ≠ 0) (ht : aKd k = 11) (hin : vp_in j (aLen k)) (kk : GQ s0 l M hB m (pc + 1) L (.int (σ k j.toNatClampNeg) :: st) σ P) : GQ s0 l M hB m pc L (.int j :: .ref a :: st) σ P := fun h hM => by
  subst ha
  obtain ⟨a1, a2, a3, a4⟩ := hM.1.2.2.2 k hk hs
  refine q_iaload hd (Or.inl (by rw [a2]; exact ht)) (by rw [a3]; exact hin) ?_
  rw [a4 _ (vp_lt hin)]
  exact kk h hM
theorem g_baload {k : Nat} {j : Int32} {a : Nat} (hd : decode (iC M) pc = .ok (.baload, 1)) (ha : a = m + aOff k) (hk : k < 43) (hs : aOff k ≠ 0) (ht : aKd k = 12) (hin : vp_in j (aLen k)) (kk : GQ s0 l M hB m (pc + 1) L (.int (σ k j.toNatClampNeg) :: st) σ P) : GQ s0 l M hB m pc L (.int j :: .ref a :: st) σ P := fun h hM => by
  subst ha
  obtain ⟨a1, a2, a3, a4⟩ := hM.1.2.2.2 k hk hs
  refine q_baload hd (by rw [a2]; exact ht) (by rw [a3]; exact hin) ?_
  rw [a4 _ (vp_lt hin)]
  exact kk h hM
theorem g_iastore {k : Nat} {j x : Int32} {a : Nat} (hd : decode (iC M) pc = .ok (.iastore, 1)) (ha : a = m + aOff k) (hk : k < 43) (hs : aOff k ≠ 0) (ht : aKd k = 11) (hin : vp_in j (aLen k)) (kk : GQ s0 l M hB m (pc + 1) L st (su σ k j.toNatClampNeg x) P) : GQ s0 l M hB m pc L (.int x :: .int j :: .ref a :: st) σ P := fun h hM => by
  subst ha
  obtain ⟨a1, a2, a3, a4⟩ := hM.1.2.2.2 k hk hs
  exact q_iastore hd (by rw [a2]; exact ht) (by rw [a3]; exact hin) (kk _ (hM.ar hk hs))
theorem g_bastore {k : Nat} {j x : Int32} {a : Nat} (hd : decode (iC M) pc = .ok (.bastore, 1)) (ha : a = m + aOff k) (hk : k < 43) (hs : aOff k ≠ 0) (ht : aKd k = 12) (hin : vp_in j (aLen k)) (kk : GQ s0 l M hB m (pc + 1) L st (su σ k j.toNatClampNeg x.toInt8.toInt32) P) : GQ s0 l M hB m pc L (.int x :: .int j :: .ref a :: st) σ P := fun h hM => by
  subst ha
  obtain ⟨a1, a2, a3, a4⟩ := hM.1.2.2.2 k hk hs
  exact q_bastore hd (by rw [a2]; exact ht) (by rw [a3]; exact hin) (kk _ (hM.ar hk hs))
theorem g_call {idx n : Nat} (hd : decode (iC M) pc = .ok (.invokevirtual idx, 3)) (hl : Cond.methodLink (iY M).cls idx (iY M') ∈ lw_tbl) (mv : MV M' 7 n) (hH : iH M' = []) (hn : As.length = n) (hs : st0 = As.reverse ++ .ref m :: rest) (hw : (rest.map fun v => v.category).sum ≤ 8) (hr : iF M' + 1 ≤ iF M ∧ 8 + (iL M' + 11) + iW M' ≤ iW M)
    (hc : GC s0 l M' m As σ P') (kk : ∀ r σ', P' r σ' → GQ s0 l M hB m (pc + 3) L (r.toList ++ rest) σ' P) : GQ s0 l M hB m pc L st0 σ P := fun h hM => by
  refine q_callV hd hl mv hH hM.1.2.1 hn hs hw hr (hc h hM.1) (fun v h1 q => ?_) (fun E0 h1 q => ?_)
  · obtain ⟨r, σ', e, hM', hp⟩ := q
    cases e
    exact kk _ _ hp h1 ⟨hM'.1, hM.2.trans hM'.2⟩
  · obtain ⟨r, σ', e, -⟩ := q
    cases e
theorem g_iret {v : Int32} {ty : FieldType} (hd : decode (iC M) pc = .ok (.ireturn, 1)) (hr : iR M = some ty) (hn : narrow ty (.int v) = .int v) (hP : P (some (.int v)) σ) : GQ s0 l M hB m pc L [.int v] σ P := fun h hM => q_iret hd hr hn ⟨_, _, rfl, hM, hP⟩
theorem g_vret (hd : decode (iC M) pc = .ok (.return_, 1)) (hr : iR M = none) (hP : P none σ) : GQ s0 l M hB m pc L [] σ P := fun h hM => q_vret hd hr ⟨_, _, rfl, hM, hP⟩
theorem g_aret {v : Value} {rt : FieldType} (hd : decode (iC M) pc = .ok (.areturn, 1)) (hr : iR M = some rt) (hrt : (∃ n, rt = .object n) ∨ ∃ t, rt = .array t) (hv : v = .null ∨ ∃ a, v = .ref a) (hP : P (some v) σ) : GQ s0 l M hB m pc L [v] σ P := fun h hM => q_aret hd hr hrt hv ⟨_, _, rfl, hM, hP⟩
theorem g_iconst {n : Int} {v : Int32} (hd : decode (iC M) pc = .ok (.iconst n, 1)) (hv : Int32.ofInt n = v) (k : GQ s0 l M hB m (pc + 1) L (.int v :: st) σ P) : GQ s0 l M hB m pc L (st) σ P := fun h hM => q_iconst hd hv (k h hM)
theorem g_bipush {n : Int} {v : Int32} (hd : decode (iC M) pc = .ok (.bipush n, 2)) (hv : (Int8.ofInt n).toInt32 = v) (k : GQ s0 l M hB m (pc + 2) L (.int v :: st) σ P) : GQ s0 l M hB m pc L (st) σ P := fun h hM => q_bipush hd hv (k h hM)
theorem g_sipush {n : Int} {v : Int32} (hd : decode (iC M) pc = .ok (.sipush n, 3)) (hv : (Int16.ofInt n).toInt32 = v) (k : GQ s0 l M hB m (pc + 3) L (.int v :: st) σ P) : GQ s0 l M hB m pc L (st) σ P := fun h hM => q_sipush hd hv (k h hM)
theorem g_iload_n {k9 : Fin 4} {i : Nat} {x : Int32} (hd : decode (iC M) pc = .ok (.iload_n k9, 1)) (hi : (k9 : Nat) = i) (hl : L[i]? = some (some (.int x))) (k : GQ s0 l M hB m (pc + 1) L (.int x :: st) σ P) : GQ s0 l M hB m pc L (st) σ P := fun h hM => q_iload_n hd hi hl (k h hM)
theorem g_iload {i : Nat} {x : Int32} (hd : decode (iC M) pc = .ok (.iload i, 2)) (hl : L[i]? = some (some (.int x))) (k : GQ s0 l M hB m (pc + 2) L (.int x :: st) σ P) : GQ s0 l M hB m pc L (st) σ P := fun h hM => q_iload hd hl (k h hM)
theorem g_aload_n {k9 : Fin 4} {i : Nat} {x : Nat} (hd : decode (iC M) pc = .ok (.aload_n k9, 1)) (hi : (k9 : Nat) = i) (hl : L[i]? = some (some (.ref x))) (k : GQ s0 l M hB m (pc + 1) L (.ref x :: st) σ P) : GQ s0 l M hB m pc L (st) σ P := fun h hM => q_aload_n hd hi hl (k h hM)
theorem g_aload {i : Nat} {x : Nat} (hd : decode (iC M) pc = .ok (.aload i, 2)) (hl : L[i]? = some (some (.ref x))) (k : GQ s0 l M hB m (pc + 2) L (.ref x :: st) σ P) : GQ s0 l M hB m pc L (st) σ P := fun h hM => q_aload hd hl (k h hM)
theorem g_iadd {x y : Int32} (hd : decode (iC M) pc = .ok (.iadd, 1))  (k : GQ s0 l M hB m (pc + 1) L (.int (x + y) :: st) σ P) : GQ s0 l M hB m pc L (.int y :: .int x :: st) σ P := fun h hM => q_iadd hd  (k h hM)
theorem g_isub {x y : Int32} (hd : decode (iC M) pc = .ok (.isub, 1))  (k : GQ s0 l M hB m (pc + 1) L (.int (x - y) :: st) σ P) : GQ s0 l M hB m pc L (.int y :: .int x :: st) σ P := fun h hM => q_isub hd  (k h hM)
theorem g_imul {x y : Int32} (hd : decode (iC M) pc = .ok (.imul, 1))  (k : GQ s0 l M hB m (pc + 1) L (.int (x * y) :: st) σ P) : GQ s0 l M hB m pc L (.int y :: .int x :: st) σ P := fun h hM => q_imul hd  (k h hM)
theorem g_iand {x y : Int32} (hd : decode (iC M) pc = .ok (.iand, 1))  (k : GQ s0 l M hB m (pc + 1) L (.int (x &&& y) :: st) σ P) : GQ s0 l M hB m pc L (.int y :: .int x :: st) σ P := fun h hM => q_iand hd  (k h hM)
theorem g_ior {x y : Int32} (hd : decode (iC M) pc = .ok (.ior, 1))  (k : GQ s0 l M hB m (pc + 1) L (.int (x ||| y) :: st) σ P) : GQ s0 l M hB m pc L (.int y :: .int x :: st) σ P := fun h hM => q_ior hd  (k h hM)
theorem g_ixor {x y : Int32} (hd : decode (iC M) pc = .ok (.ixor, 1))  (k : GQ s0 l M hB m (pc + 1) L (.int (x ^^^ y) :: st) σ P) : GQ s0 l M hB m pc L (.int y :: .int x :: st) σ P := fun h hM => q_ixor hd  (k h hM)
theorem g_ishl {x y : Int32} (hd : decode (iC M) pc = .ok (.ishl, 1))  (k : GQ s0 l M hB m (pc + 1) L (.int (x <<< (y &&& 31)) :: st) σ P) : GQ s0 l M hB m pc L (.int y :: .int x :: st) σ P := fun h hM => q_ishl hd  (k h hM)
theorem g_ishr {x y : Int32} (hd : decode (iC M) pc = .ok (.ishr, 1))  (k : GQ s0 l M hB m (pc + 1) L (.int (x >>> (y &&& 31)) :: st) σ P) : GQ s0 l M hB m pc L (.int y :: .int x :: st) σ P := fun h hM => q_ishr hd  (k h hM)
theorem g_idiv {x y : Int32} (hd : decode (iC M) pc = .ok (.idiv, 1)) (hne : ¬ y = 0) (k : GQ s0 l M hB m (pc + 1) L (.int (x / y) :: st) σ P) : GQ s0 l M hB m pc L (.int y :: .int x :: st) σ P := fun h hM => q_idiv hd hne (k h hM)
theorem g_irem {x y : Int32} (hd : decode (iC M) pc = .ok (.irem, 1)) (hne : ¬ y = 0) (k : GQ s0 l M hB m (pc + 1) L (.int (x - x / y * y) :: st) σ P) : GQ s0 l M hB m pc L (.int y :: .int x :: st) σ P := fun h hM => q_irem hd hne (k h hM)
theorem g_ineg {x : Int32} (hd : decode (iC M) pc = .ok (.ineg, 1))  (k : GQ s0 l M hB m (pc + 1) L (.int (-x) :: st) σ P) : GQ s0 l M hB m pc L (.int x :: st) σ P := fun h hM => q_ineg hd  (k h hM)
theorem g_i2b {x : Int32} (hd : decode (iC M) pc = .ok (.i2b, 1))  (k : GQ s0 l M hB m (pc + 1) L (.int x.toInt8.toInt32 :: st) σ P) : GQ s0 l M hB m pc L (.int x :: st) σ P := fun h hM => q_i2b hd  (k h hM)
theorem g_dup {va : Value} (hd : decode (iC M) pc = .ok (.dup, 1)) (hva : va.category = 1) (k : GQ s0 l M hB m (pc + 1) L (va :: va :: st) σ P) : GQ s0 l M hB m pc L (va :: st) σ P := fun h hM => q_dup hd hva (k h hM)
theorem g_pop {va : Value} (hd : decode (iC M) pc = .ok (.pop, 1)) (hva : va.category = 1) (k : GQ s0 l M hB m (pc + 1) L (st) σ P) : GQ s0 l M hB m pc L (va :: st) σ P := fun h hM => q_pop hd hva (k h hM)
theorem g_dup2 {va vb : Value} (hd : decode (iC M) pc = .ok (.dup2, 1)) (hva : va.category = 1) (hvb : vb.category = 1) (k : GQ s0 l M hB m (pc + 1) L (va :: vb :: va :: vb :: st) σ P) : GQ s0 l M hB m pc L (va :: vb :: st) σ P := fun h hM => q_dup2 hd hva hvb (k h hM)
theorem g_istore_n {k9 : Fin 4} {i : Nat} {x : Int32} (hd : decode (iC M) pc = .ok (.istore_n k9, 1)) (hi : (k9 : Nat) = i) (hn : i < L.length) (k : GQ s0 l M hB m (pc + 1) (L.set i (some (.int x))) st σ P) : GQ s0 l M hB m pc L (.int x :: st) σ P := fun h hM => q_istore_n hd hi hn (k h hM)
theorem g_istore {i : Nat} {x : Int32} (hd : decode (iC M) pc = .ok (.istore i, 2)) (hn : i < L.length) (k : GQ s0 l M hB m (pc + 2) (L.set i (some (.int x))) st σ P) : GQ s0 l M hB m pc L (.int x :: st) σ P := fun h hM => q_istore hd hn (k h hM)
theorem g_astore_n {k9 : Fin 4} {i : Nat} {x : Nat} (hd : decode (iC M) pc = .ok (.astore_n k9, 1)) (hi : (k9 : Nat) = i) (hn : i < L.length) (k : GQ s0 l M hB m (pc + 1) (L.set i (some (.ref x))) st σ P) : GQ s0 l M hB m pc L (.ref x :: st) σ P := fun h hM => q_astore_n hd hi hn (k h hM)
theorem g_astore {i : Nat} {x : Nat} (hd : decode (iC M) pc = .ok (.astore i, 2)) (hn : i < L.length) (k : GQ s0 l M hB m (pc + 2) (L.set i (some (.ref x))) st σ P) : GQ s0 l M hB m pc L (.ref x :: st) σ P := fun h hM => q_astore hd hn (k h hM)
theorem g_iinc {i : Nat} {n : Int} {x : Int32} (hd : decode (iC M) pc = .ok (.iinc i n, 3)) (hl : L[i]? = some (some (.int x))) (k : GQ s0 l M hB m (pc + 3) (L.set i (some (.int (x + Int32.ofInt n)))) st σ P) : GQ s0 l M hB m pc L st σ P := fun h hM => q_iinc hd hl (k h hM)
theorem g_if_eq {x : Int32} {off : Int} {tgt : Nat} (hd : decode (iC M) pc = .ok (.ifCond .eq off, 3)) (ht : (pc : Int) + off = (tgt : Int)) (kt : x = 0 → GQ s0 l M hB m tgt L st σ P) (kf : ¬ x = 0 → GQ s0 l M hB m (pc + 3) L st σ P) : GQ s0 l M hB m pc L (.int x :: st) σ P := fun h hM => q_if_eq hd ht (fun c => kt c h hM) (fun c => kf c h hM)
theorem g_icmp_eq {x y : Int32} {off : Int} {tgt : Nat} (hd : decode (iC M) pc = .ok (.if_icmp .eq off, 3)) (ht : (pc : Int) + off = (tgt : Int)) (kt : x = y → GQ s0 l M hB m tgt L st σ P) (kf : ¬ x = y → GQ s0 l M hB m (pc + 3) L st σ P) : GQ s0 l M hB m pc L (.int y :: .int x :: st) σ P := fun h hM => q_icmp_eq hd ht (fun c => kt c h hM) (fun c => kf c h hM)
theorem g_if_ne {x : Int32} {off : Int} {tgt : Nat} (hd : decode (iC M) pc = .ok (.ifCond .ne off, 3)) (ht : (pc : Int) + off = (tgt : Int)) (kt : ¬ x = 0 → GQ s0 l M hB m tgt L st σ P) (kf : x = 0 → GQ s0 l M hB m (pc + 3) L st σ P) : GQ s0 l M hB m pc L (.int x :: st) σ P := fun h hM => q_if_ne hd ht (fun c => kt c h hM) (fun c => kf c h hM)
theorem g_icmp_ne {x y : Int32} {off : Int} {tgt : Nat} (hd : decode (iC M) pc = .ok (.if_icmp .ne off, 3)) (ht : (pc : Int) + off = (tgt : Int)) (kt : ¬ x = y → GQ s0 l M hB m tgt L st σ P) (kf : x = y → GQ s0 l M hB m (pc + 3) L st σ P) : GQ s0 l M hB m pc L (.int y :: .int x :: st) σ P := fun h hM => q_icmp_ne hd ht (fun c => kt c h hM) (fun c => kf c h hM)
theorem g_if_lt {x : Int32} {off : Int} {tgt : Nat} (hd : decode (iC M) pc = .ok (.ifCond .lt off, 3)) (ht : (pc : Int) + off = (tgt : Int)) (kt : x < 0 → GQ s0 l M hB m tgt L st σ P) (kf : ¬ x < 0 → GQ s0 l M hB m (pc + 3) L st σ P) : GQ s0 l M hB m pc L (.int x :: st) σ P := fun h hM => q_if_lt hd ht (fun c => kt c h hM) (fun c => kf c h hM)
theorem g_icmp_lt {x y : Int32} {off : Int} {tgt : Nat} (hd : decode (iC M) pc = .ok (.if_icmp .lt off, 3)) (ht : (pc : Int) + off = (tgt : Int)) (kt : x < y → GQ s0 l M hB m tgt L st σ P) (kf : ¬ x < y → GQ s0 l M hB m (pc + 3) L st σ P) : GQ s0 l M hB m pc L (.int y :: .int x :: st) σ P := fun h hM => q_icmp_lt hd ht (fun c => kt c h hM) (fun c => kf c h hM)
theorem g_if_ge {x : Int32} {off : Int} {tgt : Nat} (hd : decode (iC M) pc = .ok (.ifCond .ge off, 3)) (ht : (pc : Int) + off = (tgt : Int)) (kt : 0 ≤ x → GQ s0 l M hB m tgt L st σ P) (kf : ¬ 0 ≤ x → GQ s0 l M hB m (pc + 3) L st σ P) : GQ s0 l M hB m pc L (.int x :: st) σ P := fun h hM => q_if_ge hd ht (fun c => kt c h hM) (fun c => kf c h hM)
theorem g_icmp_ge {x y : Int32} {off : Int} {tgt : Nat} (hd : decode (iC M) pc = .ok (.if_icmp .ge off, 3)) (ht : (pc : Int) + off = (tgt : Int)) (kt : y ≤ x → GQ s0 l M hB m tgt L st σ P) (kf : ¬ y ≤ x → GQ s0 l M hB m (pc + 3) L st σ P) : GQ s0 l M hB m pc L (.int y :: .int x :: st) σ P := fun h hM => q_icmp_ge hd ht (fun c => kt c h hM) (fun c => kf c h hM)
theorem g_if_gt {x : Int32} {off : Int} {tgt : Nat} (hd : decode (iC M) pc = .ok (.ifCond .gt off, 3)) (ht : (pc : Int) + off = (tgt : Int)) (kt : 0 < x → GQ s0 l M hB m tgt L st σ P) (kf : ¬ 0 < x → GQ s0 l M hB m (pc + 3) L st σ P) : GQ s0 l M hB m pc L (.int x :: st) σ P := fun h hM => q_if_gt hd ht (fun c => kt c h hM) (fun c => kf c h hM)
theorem g_icmp_gt {x y : Int32} {off : Int} {tgt : Nat} (hd : decode (iC M) pc = .ok (.if_icmp .gt off, 3)) (ht : (pc : Int) + off = (tgt : Int)) (kt : y < x → GQ s0 l M hB m tgt L st σ P) (kf : ¬ y < x → GQ s0 l M hB m (pc + 3) L st σ P) : GQ s0 l M hB m pc L (.int y :: .int x :: st) σ P := fun h hM => q_icmp_gt hd ht (fun c => kt c h hM) (fun c => kf c h hM)
theorem g_if_le {x : Int32} {off : Int} {tgt : Nat} (hd : decode (iC M) pc = .ok (.ifCond .le off, 3)) (ht : (pc : Int) + off = (tgt : Int)) (kt : x ≤ 0 → GQ s0 l M hB m tgt L st σ P) (kf : ¬ x ≤ 0 → GQ s0 l M hB m (pc + 3) L st σ P) : GQ s0 l M hB m pc L (.int x :: st) σ P := fun h hM => q_if_le hd ht (fun c => kt c h hM) (fun c => kf c h hM)
theorem g_icmp_le {x y : Int32} {off : Int} {tgt : Nat} (hd : decode (iC M) pc = .ok (.if_icmp .le off, 3)) (ht : (pc : Int) + off = (tgt : Int)) (kt : x ≤ y → GQ s0 l M hB m tgt L st σ P) (kf : ¬ x ≤ y → GQ s0 l M hB m (pc + 3) L st σ P) : GQ s0 l M hB m pc L (.int y :: .int x :: st) σ P := fun h hM => q_icmp_le hd ht (fun c => kt c h hM) (fun c => kf c h hM)
theorem g_goto {off : Int} {tgt : Nat} (hd : decode (iC M) pc = .ok (.goto off, 3)) (ht : (pc : Int) + off = (tgt : Int)) (k : GQ s0 l M hB m tgt L st σ P) : GQ s0 l M hB m pc L st σ P := fun h hM => q_goto hd ht (k h hM)
theorem g_tableOut {dflt lo hi : Int} {offs : Array Int} {len : Nat} {x : Int32} {tgt : Nat} (hd : decode (iC M) pc = .ok (.tableswitch dflt lo hi offs, len)) (hx : x.toInt < lo ∨ hi < x.toInt) (ht : (pc : Int) + dflt = (tgt : Int)) (k : GQ s0 l M hB m tgt L st σ P) : GQ s0 l M hB m pc L (.int x :: st) σ P := fun h hM => q_tableOut hd hx ht (k h hM)
theorem g_tableIn {dflt lo hi : Int} {offs : Array Int} {len : Nat} {x : Int32} {off : Int} {tgt : Nat} (hd : decode (iC M) pc = .ok (.tableswitch dflt lo hi offs, len)) (h1 : ¬ x.toInt < lo) (h2 : ¬ hi < x.toInt) (ho : offs[(x.toInt - lo).toNat]? = some off) (ht : (pc : Int) + off = (tgt : Int)) (k : GQ s0 l M hB m tgt L st σ P) : GQ s0 l M hB m pc L (.int x :: st) σ P := fun h hM => q_tableIn hd h1 h2 ho ht (k h hM)
end GRules
