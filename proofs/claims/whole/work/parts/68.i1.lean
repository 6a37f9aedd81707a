/-! ===== constructors of the class ===== -/
def Sm (h h' : Mem) (x : Nat) : Prop := mK h' x = mK h x ∧ mL h' x = mL h x ∧ (∀ j, mI h' x j = mI h x j) ∧ (∀ j, mR h' x j = mR h x j) ∧ ∀ j, mJ h' x j = mJ h x j
def At (h : Mem) (a k n : Nat) (I : Nat → Int32) (R : Nat → Option Nat) : Prop := mK h a = k ∧ mL h a = n ∧ (∀ j, mI h a j = I j) ∧ ∀ j, mR h a j = R j
def up {α : Type} (f : Nat → α) (k : Nat) (v : α) : Nat → α := fun i => if i = k then v else f i
theorem Sm.refl (h : Mem) (x : Nat) : Sm h h x := ⟨rfl, rfl, fun _ => rfl, fun _ => rfl, fun _ => rfl⟩
theorem Sm.trans {a b c : Mem} {x : Nat} (h : Sm a b x) (h' : Sm b c x) : Sm a c x := ⟨h'.1.trans h.1, h'.2.1.trans h.2.1, fun j => (h'.2.2.1 j).trans (h.2.2.1 j), fun j => (h'.2.2.2.1 j).trans (h.2.2.2.1 j), fun j => (h'.2.2.2.2 j).trans (h.2.2.2.2 j)⟩
theorem Sm.nw {h : Mem} {kd len n x : Nat} (hx : x < mN h) : Sm h (nw h kd len n) x := ⟨by rw [mK_nw, if_neg (by omega)], by rw [mL_nw, if_neg (by omega)], fun j => by rw [mI_nw, if_neg (by omega)], fun j => by rw [mR_nw, if_neg (by omega)], fun j => by rw [mJ_nw, if_neg (by omega)]⟩
theorem Sm.sI {h : Mem} {a k x : Nat} {v : Int32} (hx : x ≠ a) : Sm h (sI h a k v) x := ⟨rfl, rfl, fun j => by rw [mI_sI, if_neg (fun z => hx z.1)], fun _ => rfl, fun _ => rfl⟩
theorem Sm.sR {h : Mem} {a k x : Nat} {v : Option Nat} (hx : x ≠ a) : Sm h (sR h a k v) x := ⟨rfl, rfl, fun _ => rfl, fun j => by rw [mR_sR, if_neg (fun z => hx z.1)], fun _ => rfl⟩
theorem At.sm {h h' : Mem} {a k n : Nat} {I : Nat → Int32} {R : Nat → Option Nat} (x : At h a k n I R) (s : Sm h h' a) : At h' a k n I R := ⟨s.1.trans x.1, s.2.1.trans x.2.1, fun j => (s.2.2.1 j).trans (x.2.2.1 j), fun j => (s.2.2.2.1 j).trans (x.2.2.2 j)⟩
theorem At.new (h : Mem) (kd len n : Nat) : At (nw h kd len n) (mN h) kd len (fun _ => 0) (fun _ => none) := ⟨by rw [mK_nw, if_pos rfl], by rw [mL_nw, if_pos rfl], fun j => by rw [mI_nw, if_pos rfl], fun j => by rw [mR_nw, if_pos rfl]⟩
theorem At.sI {h : Mem} {a k n f : Nat} {I : Nat → Int32} {R : Nat → Option Nat} {v : Int32} (x : At h a k n I R) : At (sI h a f v) a k n (up I f v) R := ⟨x.1, x.2.1, fun j => by
  rw [mI_sI]
  unfold up
  by_cases e : j = f
  · rw [if_pos ⟨rfl, e⟩, if_pos e]
  · rw [if_neg (fun z => e z.2), if_neg e]
    exact x.2.2.1 j, x.2.2.2⟩
theorem At.sR {h : Mem} {a k n f : Nat} {I : Nat → Int32} {R : Nat → Option Nat} {v : Option Nat} (x : At h a k n I R) : At (sR h a f v) a k n I (up R f v) := ⟨x.1, x.2.1, x.2.2.1, fun j => by
  rw [mR_sR]
  unfold up
  by_cases e : j = f
  · rw [if_pos ⟨rfl, e⟩, if_pos e]
  · rw [if_neg (fun z => e z.2), if_neg e]
    exact x.2.2.2 j⟩
abbrev Z0 : Nat → Int32 := fun _ => 0
abbrev N0 : Nat → Option Nat := fun _ => none
def TI (h : Mem) (a : Nat) (h1 : Mem) : Prop := (mN h1 = mN h + 1 ∧ mU h1 = mU h + 4000) ∧ (∀ x, x < mN h → x ≠ a → Sm h h1 x) ∧ At h1 a 6 0 (up Z0 3 (-1)) (up N0 0 (some (mN h))) ∧ At h1 (mN h) 12 4000 Z0 N0
theorem q_T_init {s0 : State} {l : Launch} {h : Mem} {a : Nat} (ha : a < mN h) (hA : At h a 6 0 Z0 N0) : CQ s0 l M_T_init [.ref a] h (fun o h1 => o = .inl none ∧ TI h a h1) := by
  have hne : a ≠ mN h := by omega
  have k1 : mK (nw h 12 4000 4000) a = 6 := (Sm.nw ha).1.trans hA.1
  refine c_in (by decide) rfl rfl (Nat.le_of_ble_eq_true rfl) ?_
  refine q_aload_n d_T_init_0 rfl rfl ?_
  refine q_objinit d_T_init_1 lT_5 w_obj1 w_obj2 (Nat.le_of_ble_eq_true rfl) (by decide) ?_
  refine q_aload_n d_T_init_4 rfl rfl ?_
  refine q_sipush (v := nI 4000) d_T_init_5 (by decide) ?_
  refine q_newarray (kd := 12) d_T_init_8 rfl (by decide) w_abyte (by decide) (by decide) ?_
  refine q_putR d_T_init_10 fT_11 rfl k1 rfl rfl (Or.inr ⟨rfl, rfl⟩) ?_
  refine q_aload_n d_T_init_13 rfl rfl ?_
  refine q_iconst (v := -1) d_T_init_14 (by decide) ?_
  refine q_putI d_T_init_15 fT_15 rfl k1 rfl rfl (Or.inl rfl) ?_
  refine q_vret d_T_init_18 rfl ?_
  refine ⟨rfl, ⟨rfl, rfl⟩, fun x hx hxa => (Sm.nw hx).trans ((Sm.sR hxa).trans (Sm.sI hxa)), ((hA.sm (Sm.nw ha)).sR).sI, ((At.new h 12 4000 4000).sm (Sm.sR (Ne.symm hne))).sm (Sm.sI (Ne.symm hne))⟩
def MkA (h : Mem) (a ci f kd n : Nat) (I : Nat → Int32) (R : Nat → Option Nat) (h' : Mem) : Prop := (mN h' = mN h + 1 ∧ mU h' = mU h + n) ∧ (∀ x, x < mN h → x ≠ a → Sm h h' x) ∧ At h' a (ci + 1) 0 I (up R f (some (mN h))) ∧ At h' (mN h) kd n Z0 N0
theorem q_mkA {s0 : State} {l : Launch} {M : MI} {h0 h : Mem} {pc a idx ci f kd n : Nat} {at9 : ArrayType} {ty : FieldType} {Lc : List (Option Value)} {st : List Value} {I : Nat → Int32} {R : Nat → Option Nat} {Q : Out → Mem → Prop} (d1 : decode (iC M) pc = .ok (.newarray at9, 2)) (hty : newarray.typeOf at9 = ty) (hkd : (kd = 11 ∧ ty = .int) ∨ (kd = 12 ∧ ty = .byte) ∨ (kd = 13 ∧ ty = .long)) (hw : Cond.arrayClass ty ∈ lw_tbl) (hn9 : n ≤ 10000000) (d2 : decode (iC M) (pc + 2) = .ok (.putfield idx, 3)) (hf : FL (iY M).cls idx ci f) (ht : isR ci f = true) (hn : ∀ q, narrow (cY ci f) (.ref q) = .ref q) (hfit : ∀ q, fits (cY ci f) (.ref q) = true) (hfin : (cT ci f).2.2.2 = false ∨ ((iY M).cls = cnm ci ∧ (iY M).name = "<init>")) (ha : a < mN h) (hA : At h a (ci + 1) 0 I R)
    (kk : ∀ h', MkA h a ci f kd n I R h' → RQ s0 l M h0 (pc + 2 + 3) Lc st h' Q) : RQ s0 l M h0 pc Lc (.int (nI n) :: .ref a :: st) h Q := by
  have hne : a ≠ mN h := by omega
  have e : (nI n).toNatClampNeg = n := nI_clamp (by omega)
  have hA9 := hA.sm (Sm.nw (kd := kd) (len := n) (n := n) ha)
  refine q_newarray (kd := kd) d1 hty hkd hw (nI_pos (by omega)) (by omega) ?_
  rw [e]
  refine q_putR d2 hf ht hA9.1 (hn _) (hfit _) hfin ?_
  exact kk _ ⟨⟨rfl, rfl⟩, fun x hx hxa => (Sm.nw hx).trans (Sm.sR hxa), hA9.sR, (At.new h kd n n).sm (Sm.sR (Ne.symm hne))⟩
def BI (h : Mem) (a : Nat) (h1 : Mem) : Prop := (mN h1 = mN h + 2 ∧ mU h1 = mU h + 128) ∧ (∀ x, x < mN h → x ≠ a → Sm h h1 x) ∧ At h1 a 1 0 Z0 (up (up N0 0 (some (mN h))) 1 (some (mN h + 1))) ∧ At h1 (mN h) 11 64 Z0 N0 ∧ At h1 (mN h + 1) 11 64 Z0 N0
theorem q_B_init {s0 : State} {l : Launch} {h : Mem} {a : Nat} (ha : a < mN h) (hA : At h a 1 0 Z0 N0) : CQ s0 l M_B_init [.ref a] h (fun o h1 => o = .inl none ∧ BI h a h1) := by
  have hne : a ≠ mN h := by omega
  have a1 := (hA.sm (Sm.nw (kd := 11) (len := 64) (n := 64) ha)).sR (f := 0) (v := some (mN h))
  have n1 : mN (sR (nw h 11 64 64) a 0 (some (mN h))) = mN h + 1 := rfl
  have a2 := (a1.sm (Sm.nw (kd := 11) (len := 64) (n := 64) (show a < mN (sR (nw h 11 64 64) a 0 (some (mN h))) by rw [n1]; omega)))
  refine c_in (by decide) rfl rfl (Nat.le_of_ble_eq_true rfl) ?_
  refine q_aload_n d_B_init_0 rfl rfl ?_
  refine q_objinit d_B_init_1 lB_1 w_obj1 w_obj2 (Nat.le_of_ble_eq_true rfl) (by decide) ?_
  refine q_aload_n d_B_init_4 rfl rfl ?_
  refine q_bipush (v := nI 64) d_B_init_5 (by decide) ?_
  refine q_newarray (kd := 11) d_B_init_7 rfl (by decide) w_aint (by decide) (by decide) ?_
  refine q_putR d_B_init_9 fB_7 rfl a1.1 rfl rfl (Or.inr ⟨rfl, rfl⟩) ?_
  refine q_aload_n d_B_init_12 rfl rfl ?_
  refine q_bipush (v := nI 64) d_B_init_13 (by decide) ?_
  refine q_newarray (kd := 11) d_B_init_15 rfl (by decide) w_aint (by decide) (by decide) ?_
  refine q_putR d_B_init_17 fB_13 rfl a2.1 rfl rfl (Or.inr ⟨rfl, rfl⟩) ?_
  refine q_vret d_B_init_20 rfl ?_
  refine ⟨rfl, ⟨rfl, show mU h + 64 + 64 = mU h + 128 by omega⟩, fun x hx hxa => (Sm.nw hx).trans ((Sm.sR hxa).trans ((Sm.nw (show x < mN h + 1 by omega)).trans (Sm.sR hxa))), a2.sR, (((At.new h 11 64 64).sm (Sm.sR (Ne.symm hne))).sm (Sm.nw (show mN h < mN h + 1 by omega))).sm (Sm.sR (Ne.symm hne)), (At.new (sR (nw h 11 64 64) a 0 (some (mN h))) 11 64 64).sm (Sm.sR (show mN h + 1 ≠ a by omega))⟩
/-! a picture's nine cells -/
def pL (r : Nat) : Nat := if r = 1 then 3 else if r = 2 then 4 else 0
def pI (r j : Nat) : Int32 := if r = 3 ∧ j = 0 then nI 16 else if r = 4 ∧ j = 0 then nI 8 else if r = 5 ∧ j = 0 then nI 8 else 0
def pR (p r j : Nat) : Option Nat := (pt2 (20 + r) j).map (fun t => p + nOf (t - 20))
def PicAt (h : Mem) (p : Nat) : Prop := ∀ r, r < 9 → At h (p + nOf r) (kdI (20 + r)) (pL r) (pI r) (pR p r)
theorem PicAt.sm {h h' : Mem} {p : Nat} (x : PicAt h p) (s : ∀ y, p ≤ y → y < p + 9 → Sm h h' y) : PicAt h' p := fun r hr => (x r hr).sm (s _ (by omega) (by have := nOf_lt r; omega))
theorem NP.at {h h1 : Mem} (n : NP h h1) : PicAt h1 (mN h) := by
  obtain ⟨-, -, nK, nL, nI9, nR, -⟩ := n
  intro r hr
  rcases (show r = 0 ∨ r = 1 ∨ r = 2 ∨ r = 3 ∨ r = 4 ∨ r = 5 ∨ r = 6 ∨ r = 7 ∨ r = 8 by omega) with rfl | rfl | rfl | rfl | rfl | rfl | rfl | rfl | rfl

  · refine ⟨?_, ?_, fun j => ?_, fun j => ?_⟩
    · show mK h1 (mN h + 0) = 2
      rw [nK, if_neg (by omega), if_neg (by omega), if_neg (by omega), if_neg (by omega), if_neg (by omega), if_neg (by omega), if_neg (by omega), if_neg (by omega), if_pos (by omega)]
    · show mL h1 (mN h + 0) = 0
      rw [nL, if_neg (by omega), if_neg (by omega), if_neg (by omega), if_neg (by omega), if_neg (by omega), if_neg (by omega), if_neg (by omega), if_neg (by omega), if_pos (by omega)]
    · show mI h1 (mN h + 0) j = pI 0 j
      rw [nI9, if_neg (by omega), if_neg (fun z => by have := z.1; omega), if_neg (by omega), if_neg (by omega), if_neg (fun z => by have := z.1; omega), if_neg (by omega), if_neg (by omega), if_neg (fun z => by have := z.1; omega), if_neg (by omega), if_neg (by omega), if_neg (by omega), if_pos (by omega)]
      unfold pI
      rw [if_neg (fun z => absurd z.1 (by decide)), if_neg (fun z => absurd z.1 (by decide)), if_neg (fun z => absurd z.1 (by decide))]
    · show mR h1 (mN h + 0) j = pR (mN h) 0 j
      rw [nR]
      by_cases e0 : j = 0
      · subst e0
        rw [if_neg (fun z => absurd z.2 (by decide)), if_neg (by omega), if_pos ⟨by omega, rfl⟩]
        rfl
      by_cases e1 : j = 1
      · subst e1
        rw [if_pos ⟨by omega, rfl⟩]
        rfl
      rw [if_neg (fun z => e1 z.2), if_neg (by omega), if_neg (fun z => e0 z.2), if_neg (fun z => by have := z.1; omega), if_neg (fun z => by have := z.1; omega), if_neg (by omega), if_neg (by omega), if_neg (fun z => by have := z.1; omega), if_neg (fun z => by have := z.1; omega), if_neg (by omega), if_neg (by omega), if_neg (fun z => by have := z.1; omega), if_neg (fun z => by have := z.1; omega), if_neg (by omega), if_neg (by omega), if_neg (by omega), if_pos (by omega)]
      unfold pR pt2
      match j, e0, e1 with
      | 0, h9, _ => exact absurd rfl h9
      | 1, _, h9 => exact absurd rfl h9
      | (n9 + 2), _, _ => rfl
  · refine ⟨?_, ?_, fun j => ?_, fun j => ?_⟩
    · show mK h1 (mN h + 1) = 15
      rw [nK, if_neg (by omega), if_neg (by omega), if_neg (by omega), if_neg (by omega), if_neg (by omega), if_neg (by omega), if_neg (by omega), if_pos (by omega)]
    · show mL h1 (mN h + 1) = 3
      rw [nL, if_neg (by omega), if_neg (by omega), if_neg (by omega), if_neg (by omega), if_neg (by omega), if_neg (by omega), if_neg (by omega), if_pos (by omega)]
    · show mI h1 (mN h + 1) j = pI 1 j
      rw [nI9, if_neg (by omega), if_neg (fun z => by have := z.1; omega), if_neg (by omega), if_neg (by omega), if_neg (fun z => by have := z.1; omega), if_neg (by omega), if_neg (by omega), if_neg (fun z => by have := z.1; omega), if_neg (by omega), if_neg (by omega), if_pos (by omega)]
      unfold pI
      rw [if_neg (fun z => absurd z.1 (by decide)), if_neg (fun z => absurd z.1 (by decide)), if_neg (fun z => absurd z.1 (by decide))]
    · show mR h1 (mN h + 1) j = pR (mN h) 1 j
      rw [nR]
      by_cases e0 : j = 0
      · subst e0
        rw [if_neg (fun z => by have := z.1; omega), if_neg (by omega), if_neg (fun z => by have := z.1; omega), if_neg (fun z => absurd z.2 (by decide)), if_neg (fun z => by have := z.1; omega), if_neg (by omega), if_neg (by omega), if_neg (fun z => absurd z.2 (by decide)), if_neg (fun z => by have := z.1; omega), if_neg (by omega), if_neg (by omega), if_pos ⟨by omega, rfl⟩]
        rfl
      by_cases e1 : j = 1
      · subst e1
        rw [if_neg (fun z => by have := z.1; omega), if_neg (by omega), if_neg (fun z => by have := z.1; omega), if_neg (fun z => absurd z.2 (by decide)), if_neg (fun z => by have := z.1; omega), if_neg (by omega), if_neg (by omega), if_pos ⟨by omega, rfl⟩]
        rfl
      by_cases e2 : j = 2
      · subst e2
        rw [if_neg (fun z => by have := z.1; omega), if_neg (by omega), if_neg (fun z => by have := z.1; omega), if_pos ⟨by omega, rfl⟩]
        rfl
      rw [if_neg (fun z => by have := z.1; omega), if_neg (by omega), if_neg (fun z => by have := z.1; omega), if_neg (fun z => e2 z.2), if_neg (fun z => by have := z.1; omega), if_neg (by omega), if_neg (by omega), if_neg (fun z => e1 z.2), if_neg (fun z => by have := z.1; omega), if_neg (by omega), if_neg (by omega), if_neg (fun z => e0 z.2), if_neg (fun z => by have := z.1; omega), if_neg (by omega), if_neg (by omega), if_pos (by omega)]
      unfold pR pt2
      match j, e0, e1, e2 with
      | 0, h9, _, _ => exact absurd rfl h9
      | 1, _, h9, _ => exact absurd rfl h9
      | 2, _, _, h9 => exact absurd rfl h9
      | (n9 + 3), _, _, _ => show none = (if n9 + 3 < 3 then some (20 + 1 + 2 + (n9 + 3)) else none).map _; rw [if_neg (by omega)]; rfl
  · refine ⟨?_, ?_, fun j => ?_, fun j => ?_⟩
    · show mK h1 (mN h + 8) = 11
      rw [nK, if_pos (by omega)]
    · show mL h1 (mN h + 8) = 4
      rw [nL, if_pos (by omega)]
    · show mI h1 (mN h + 8) j = pI 2 j
      rw [nI9, if_pos (by omega)]
      unfold pI
      rw [if_neg (fun z => absurd z.1 (by decide)), if_neg (fun z => absurd z.1 (by decide)), if_neg (fun z => absurd z.1 (by decide))]
    · show mR h1 (mN h + 8) j = pR (mN h) 2 j
      rw [nR]
      rw [if_neg (fun z => by have := z.1; omega), if_pos (by omega)]
      rfl
  · refine ⟨?_, ?_, fun j => ?_, fun j => ?_⟩
    · show mK h1 (mN h + 2) = 3
      rw [nK, if_neg (by omega), if_neg (by omega), if_neg (by omega), if_neg (by omega), if_neg (by omega), if_neg (by omega), if_pos (by omega)]
    · show mL h1 (mN h + 2) = 0
      rw [nL, if_neg (by omega), if_neg (by omega), if_neg (by omega), if_neg (by omega), if_neg (by omega), if_neg (by omega), if_pos (by omega)]
    · show mI h1 (mN h + 2) j = pI 3 j
      rw [nI9]
      by_cases e : j = 0
      · subst e
        rw [if_neg (by omega), if_neg (fun z => by have := z.1; omega), if_neg (by omega), if_neg (by omega), if_neg (fun z => by have := z.1; omega), if_neg (by omega), if_neg (by omega), if_pos ⟨by omega, rfl⟩]
        rfl
      · rw [if_neg (by omega), if_neg (fun z => by have := z.1; omega), if_neg (by omega), if_neg (by omega), if_neg (fun z => by have := z.1; omega), if_neg (by omega), if_neg (by omega), if_neg (fun z => e z.2), if_neg (by omega), if_pos (by omega)]
        unfold pI
        rw [if_neg (fun z => e z.2), if_neg (fun z => e z.2), if_neg (fun z => e z.2)]
    · show mR h1 (mN h + 2) j = pR (mN h) 3 j
      rw [nR]
      by_cases e3 : j = 3
      · subst e3
        rw [if_neg (fun z => by have := z.1; omega), if_neg (by omega), if_neg (fun z => by have := z.1; omega), if_neg (fun z => by have := z.1; omega), if_neg (fun z => by have := z.1; omega), if_neg (by omega), if_neg (by omega), if_neg (fun z => by have := z.1; omega), if_neg (fun z => by have := z.1; omega), if_neg (by omega), if_neg (by omega), if_neg (fun z => by have := z.1; omega), if_pos ⟨by omega, rfl⟩]
        rfl
      rw [if_neg (fun z => by have := z.1; omega), if_neg (by omega), if_neg (fun z => by have := z.1; omega), if_neg (fun z => by have := z.1; omega), if_neg (fun z => by have := z.1; omega), if_neg (by omega), if_neg (by omega), if_neg (fun z => by have := z.1; omega), if_neg (fun z => by have := z.1; omega), if_neg (by omega), if_neg (by omega), if_neg (fun z => by have := z.1; omega), if_neg (fun z => e3 z.2), if_neg (by omega), if_pos (by omega)]
      unfold pR pt2
      match j, e3 with
      | 0, _ => rfl
      | 1, _ => rfl
      | 2, _ => rfl
      | 3, h9 => exact absurd rfl h9
      | (n9 + 4), _ => rfl
  · refine ⟨?_, ?_, fun j => ?_, fun j => ?_⟩
    · show mK h1 (mN h + 4) = 3
      rw [nK, if_neg (by omega), if_neg (by omega), if_neg (by omega), if_neg (by omega), if_pos (by omega)]
    · show mL h1 (mN h + 4) = 0
      rw [nL, if_neg (by omega), if_neg (by omega), if_neg (by omega), if_neg (by omega), if_pos (by omega)]
    · show mI h1 (mN h + 4) j = pI 4 j
      rw [nI9]
      by_cases e : j = 0
      · subst e
        rw [if_neg (by omega), if_neg (fun z => by have := z.1; omega), if_neg (by omega), if_neg (by omega), if_pos ⟨by omega, rfl⟩]
        rfl
      · rw [if_neg (by omega), if_neg (fun z => by have := z.1; omega), if_neg (by omega), if_neg (by omega), if_neg (fun z => e z.2), if_neg (by omega), if_pos (by omega)]
        unfold pI
        rw [if_neg (fun z => e z.2), if_neg (fun z => e z.2), if_neg (fun z => e z.2)]
    · show mR h1 (mN h + 4) j = pR (mN h) 4 j
      rw [nR]
      by_cases e3 : j = 3
      · subst e3
        rw [if_neg (fun z => by have := z.1; omega), if_neg (by omega), if_neg (fun z => by have := z.1; omega), if_neg (fun z => by have := z.1; omega), if_neg (fun z => by have := z.1; omega), if_neg (by omega), if_neg (by omega), if_neg (fun z => by have := z.1; omega), if_pos ⟨by omega, rfl⟩]
        rfl
      rw [if_neg (fun z => by have := z.1; omega), if_neg (by omega), if_neg (fun z => by have := z.1; omega), if_neg (fun z => by have := z.1; omega), if_neg (fun z => by have := z.1; omega), if_neg (by omega), if_neg (by omega), if_neg (fun z => by have := z.1; omega), if_neg (fun z => e3 z.2), if_neg (by omega), if_pos (by omega)]
      unfold pR pt2
      match j, e3 with
      | 0, _ => rfl
      | 1, _ => rfl
      | 2, _ => rfl
      | 3, h9 => exact absurd rfl h9
      | (n9 + 4), _ => rfl
  · refine ⟨?_, ?_, fun j => ?_, fun j => ?_⟩
    · show mK h1 (mN h + 6) = 3
      rw [nK, if_neg (by omega), if_neg (by omega), if_pos (by omega)]
    · show mL h1 (mN h + 6) = 0
      rw [nL, if_neg (by omega), if_neg (by omega), if_pos (by omega)]
    · show mI h1 (mN h + 6) j = pI 5 j
      rw [nI9]
      by_cases e : j = 0
      · subst e
        rw [if_neg (by omega), if_pos ⟨by omega, rfl⟩]
        rfl
      · rw [if_neg (by omega), if_neg (fun z => e z.2), if_neg (by omega), if_pos (by omega)]
        unfold pI
        rw [if_neg (fun z => e z.2), if_neg (fun z => e z.2), if_neg (fun z => e z.2)]
    · show mR h1 (mN h + 6) j = pR (mN h) 5 j
      rw [nR]
      by_cases e3 : j = 3
      · subst e3
        rw [if_neg (fun z => by have := z.1; omega), if_neg (by omega), if_neg (fun z => by have := z.1; omega), if_neg (fun z => by have := z.1; omega), if_pos ⟨by omega, rfl⟩]
        rfl
      rw [if_neg (fun z => by have := z.1; omega), if_neg (by omega), if_neg (fun z => by have := z.1; omega), if_neg (fun z => by have := z.1; omega), if_neg (fun z => e3 z.2), if_neg (by omega), if_pos (by omega)]
      unfold pR pt2
      match j, e3 with
      | 0, _ => rfl
      | 1, _ => rfl
      | 2, _ => rfl
      | 3, h9 => exact absurd rfl h9
      | (n9 + 4), _ => rfl
  · refine ⟨?_, ?_, fun j => ?_, fun j => ?_⟩
    · show mK h1 (mN h + 3) = 11
      rw [nK, if_neg (by omega), if_neg (by omega), if_neg (by omega), if_neg (by omega), if_neg (by omega), if_pos (by omega)]
    · show mL h1 (mN h + 3) = 0
      rw [nL, if_neg (by omega), if_neg (by omega), if_neg (by omega), if_neg (by omega), if_neg (by omega), if_pos (by omega)]
    · show mI h1 (mN h + 3) j = pI 6 j
      rw [nI9, if_neg (by omega), if_neg (fun z => by have := z.1; omega), if_neg (by omega), if_neg (by omega), if_neg (fun z => by have := z.1; omega), if_neg (by omega), if_neg (by omega), if_neg (fun z => by have := z.1; omega), if_pos (by omega)]
      unfold pI
      rw [if_neg (fun z => absurd z.1 (by decide)), if_neg (fun z => absurd z.1 (by decide)), if_neg (fun z => absurd z.1 (by decide))]
    · show mR h1 (mN h + 3) j = pR (mN h) 6 j
      rw [nR]
      rw [if_neg (fun z => by have := z.1; omega), if_neg (by omega), if_neg (fun z => by have := z.1; omega), if_neg (fun z => by have := z.1; omega), if_neg (fun z => by have := z.1; omega), if_neg (by omega), if_neg (by omega), if_neg (fun z => by have := z.1; omega), if_neg (fun z => by have := z.1; omega), if_neg (by omega), if_neg (by omega), if_neg (fun z => by have := z.1; omega), if_neg (fun z => by have := z.1; omega), if_pos (by omega)]
      rfl
  · refine ⟨?_, ?_, fun j => ?_, fun j => ?_⟩
    · show mK h1 (mN h + 5) = 11
      rw [nK, if_neg (by omega), if_neg (by omega), if_neg (by omega), if_pos (by omega)]
    · show mL h1 (mN h + 5) = 0
      rw [nL, if_neg (by omega), if_neg (by omega), if_neg (by omega), if_pos (by omega)]
    · show mI h1 (mN h + 5) j = pI 7 j
      rw [nI9, if_neg (by omega), if_neg (fun z => by have := z.1; omega), if_neg (by omega), if_neg (by omega), if_neg (fun z => by have := z.1; omega), if_pos (by omega)]
      unfold pI
      rw [if_neg (fun z => absurd z.1 (by decide)), if_neg (fun z => absurd z.1 (by decide)), if_neg (fun z => absurd z.1 (by decide))]
    · show mR h1 (mN h + 5) j = pR (mN h) 7 j
      rw [nR]
      rw [if_neg (fun z => by have := z.1; omega), if_neg (by omega), if_neg (fun z => by have := z.1; omega), if_neg (fun z => by have := z.1; omega), if_neg (fun z => by have := z.1; omega), if_neg (by omega), if_neg (by omega), if_neg (fun z => by have := z.1; omega), if_neg (fun z => by have := z.1; omega), if_pos (by omega)]
      rfl
  · refine ⟨?_, ?_, fun j => ?_, fun j => ?_⟩
    · show mK h1 (mN h + 7) = 11
      rw [nK, if_neg (by omega), if_pos (by omega)]
    · show mL h1 (mN h + 7) = 0
      rw [nL, if_neg (by omega), if_pos (by omega)]
    · show mI h1 (mN h + 7) j = pI 8 j
      rw [nI9, if_neg (by omega), if_neg (fun z => by have := z.1; omega), if_pos (by omega)]
      unfold pI
      rw [if_neg (fun z => absurd z.1 (by decide)), if_neg (fun z => absurd z.1 (by decide)), if_neg (fun z => absurd z.1 (by decide))]
    · show mR h1 (mN h + 7) j = pR (mN h) 8 j
      rw [nR]
      rw [if_neg (fun z => by have := z.1; omega), if_neg (by omega), if_neg (fun z => by have := z.1; omega), if_neg (fun z => by have := z.1; omega), if_neg (fun z => by have := z.1; omega), if_pos (by omega)]
      rfl
def MkP (h : Mem) (a f : Nat) (I : Nat → Int32) (R : Nat → Option Nat) (h' : Mem) : Prop := (mN h' = mN h + 9 ∧ mU h' = mU h + 21) ∧ (∀ x, x < mN h → x ≠ a → Sm h h' x) ∧ At h' a 4 0 I (up R f (some (mN h))) ∧ PicAt h' (mN h)
theorem q_mkPic {s0 : State} {l : Launch} {h0 h : Mem} {pc a idx f : Nat} {I : Nat → Int32} {R : Nat → Option Nat} {Q : Out → Mem → Prop} (d0 : decode (iC M_R_init) pc = .ok (.aload_n 0, 1)) (d1 : decode (iC M_R_init) (pc + 1) = .ok (.new 15, 3)) (d4 : decode (iC M_R_init) (pc + 4) = .ok (.dup, 1)) (d5 : decode (iC M_R_init) (pc + 5) = .ok (.invokespecial 28, 3)) (d8 : decode (iC M_R_init) (pc + 8) = .ok (.putfield idx, 3)) (hf : FL (iY M_R_init).cls idx 3 f) (ht : isR 3 f = true) (hn : ∀ q, narrow (cY 3 f) (.ref q) = .ref q) (hfit : ∀ q, fits (cY 3 f) (.ref q) = true) (hfin : (cT 3 f).2.2.2 = false ∨ ((iY M_R_init).cls = cnm 3 ∧ (iY M_R_init).name = "<init>")) (ha : a < mN h) (hA : At h a 4 0 I R)
    (kk : ∀ h', MkP h a f I R h' → RQ s0 l M_R_init h0 (pc + 11) (ent [.ref a] (iL M_R_init)) [] h' Q) : RQ s0 l M_R_init h0 pc (ent [.ref a] (iL M_R_init)) [] h Q := by
  have hNP := NP_new h
  refine q_aload_n d0 rfl rfl ?_
  refine q_new (ci := 1) d1 (by decide) cR_15 ?_
  refine q_dup d4 rfl ?_
  refine q_callIN (As := []) (Q1 := fun h9 => h9 = newP h) d5 nR_28 mc_P_init rfl rfl rfl rfl (Nat.le_of_ble_eq_true rfl) (by decide) (q_P_init (h := nw h 2 0 2) (a := mN h) (Nat.lt_succ_self _) (by rw [mK_nw, if_pos rfl])) (fun h9 q9 => ?_)
  rw [← q9] at hNP
  clear q9
  have sm : ∀ x, x < mN h → Sm h h9 x := fun x hx => hNP.2.2.2.2.2.2 x hx
  have hA9 := hA.sm (sm a ha)
  refine q_putR d8 hf ht hA9.1 (hn _) (hfit _) hfin ?_
  refine kk _ ⟨⟨hNP.1, hNP.2.1⟩, fun x hx hxa => (sm x hx).trans (Sm.sR hxa), hA9.sR, hNP.at.sm (fun y h1 h2 => Sm.sR (by omega))⟩
def RI (h : Mem) (a : Nat) (h1 : Mem) : Prop := (mN h1 = mN h + 29 ∧ mU h1 = mU h + 91) ∧ (∀ x, x < mN h → x ≠ a → Sm h h1 x) ∧ At h1 a 4 0 (up (up Z0 2 (nI 1)) 3 (nI 1)) (up (up (up (up (up N0 0 (some (mN h))) 1 (some (mN h + 1))) 4 (some (mN h + 2))) 5 (some (mN h + 11))) 6 (some (mN h + 20))) ∧ At h1 (mN h) 11 8 Z0 N0 ∧ At h1 (mN h + 1) 14 20 Z0 N0 ∧ PicAt h1 (mN h + 2) ∧ PicAt h1 (mN h + 11) ∧ PicAt h1 (mN h + 20)
theorem q_R_init {s0 : State} {l : Launch} {h : Mem} {a : Nat} (ha : a < mN h) (hA : At h a 4 0 Z0 N0) : CQ s0 l M_R_init [.ref a] h (fun o h1 => o = .inl none ∧ RI h a h1) := by
  have hne : a ≠ mN h := by omega
  have a1 := (hA.sm (Sm.nw (kd := 11) (len := 8) (n := 8) ha)).sR (f := 0) (v := some (mN h))
  have a2 := (a1.sm (Sm.nw (kd := 14) (len := 20) (n := 20) (show a < mN h + 1 by omega))).sR (f := 1) (v := some (mN h + 1))
  have a3 := (a2.sI (f := 2) (v := nI 1)).sI (f := 3) (v := nI 1)
  have t1 : At (sI (sI (sR (nw (sR (nw h 11 8 8) a 0 (some (mN h))) 14 20 20) a 1 (some (mN h + 1))) a 2 (nI 1)) a 3 (nI 1)) (mN h) 11 8 Z0 N0 := (((((At.new h 11 8 8).sm (Sm.sR (Ne.symm hne))).sm (Sm.nw (show mN h < mN h + 1 by omega))).sm (Sm.sR (Ne.symm hne))).sm (Sm.sI (Ne.symm hne))).sm (Sm.sI (Ne.symm hne))
  have t2 : At (sI (sI (sR (nw (sR (nw h 11 8 8) a 0 (some (mN h))) 14 20 20) a 1 (some (mN h + 1))) a 2 (nI 1)) a 3 (nI 1)) (mN h + 1) 14 20 Z0 N0 := (((At.new (sR (nw h 11 8 8) a 0 (some (mN h))) 14 20 20).sm (Sm.sR (show mN h + 1 ≠ a by omega))).sm (Sm.sI (show mN h + 1 ≠ a by omega))).sm (Sm.sI (show mN h + 1 ≠ a by omega))
  have s1 : ∀ x, x < mN h → x ≠ a → Sm h (sI (sI (sR (nw (sR (nw h 11 8 8) a 0 (some (mN h))) 14 20 20) a 1 (some (mN h + 1))) a 2 (nI 1)) a 3 (nI 1)) x := fun x hx hxa => (Sm.nw hx).trans ((Sm.sR hxa).trans ((Sm.nw (show x < mN h + 1 by omega)).trans ((Sm.sR hxa).trans ((Sm.sI hxa).trans (Sm.sI hxa)))))
  have n1 : mN (sI (sI (sR (nw (sR (nw h 11 8 8) a 0 (some (mN h))) 14 20 20) a 1 (some (mN h + 1))) a 2 (nI 1)) a 3 (nI 1)) = mN h + 2 := rfl
  have u1 : mU (sI (sI (sR (nw (sR (nw h 11 8 8) a 0 (some (mN h))) 14 20 20) a 1 (some (mN h + 1))) a 2 (nI 1)) a 3 (nI 1)) = mU h + 28 := show mU h + 8 + 20 = mU h + 28 by omega
  refine c_in (by decide) rfl rfl (Nat.le_of_ble_eq_true rfl) ?_
  refine q_aload_n d_R_init_0 rfl rfl ?_
  refine q_objinit d_R_init_1 lR_3 w_obj1 w_obj2 (Nat.le_of_ble_eq_true rfl) (by decide) ?_
  refine q_aload_n d_R_init_4 rfl rfl ?_
  refine q_bipush (v := nI 8) d_R_init_5 (by decide) ?_
  refine q_newarray (kd := 11) d_R_init_7 rfl (by decide) w_aint (by decide) (by decide) ?_
  refine q_putR d_R_init_9 fR_9 rfl a1.1 rfl rfl (Or.inr ⟨rfl, rfl⟩) ?_
  refine q_aload_n d_R_init_12 rfl rfl ?_
  refine q_bipush (v := nI 20) d_R_init_13 (by decide) ?_
  refine q_anewarray (ci := 1) d_R_init_15 (by decide) cR_15 w_over1 (by decide) (by decide) ?_
  refine q_putR d_R_init_18 fR_17 rfl a2.1 rfl rfl (Or.inr ⟨rfl, rfl⟩) ?_
  refine q_aload_n d_R_init_21 rfl rfl ?_
  refine q_iconst (v := nI 1) d_R_init_22 (by decide) ?_
  refine q_putI d_R_init_23 fR_21 rfl a2.1 rfl rfl (Or.inl rfl) ?_
  refine q_aload_n d_R_init_26 rfl rfl ?_
  refine q_iconst (v := nI 1) d_R_init_27 (by decide) ?_
  refine q_putI d_R_init_28 fR_25 rfl a2.1 rfl rfl (Or.inl rfl) ?_
  show RQ s0 l M_R_init h 31 (ent [.ref a] (iL M_R_init)) [] (sI (sI (sR (nw (sR (nw h 11 8 8) a 0 (some (mN h))) 14 20 20) a 1 (some (mN h + 1))) a 2 (nI 1)) a 3 (nI 1)) _
  generalize sI (sI (sR (nw (sR (nw h 11 8 8) a 0 (some (mN h))) 14 20 20) a 1 (some (mN h + 1))) a 2 (nI 1)) a 3 (nI 1) = h1 at a3 t1 t2 s1 n1 u1 ⊢
  refine q_mkPic d_R_init_31 d_R_init_32 d_R_init_35 d_R_init_36 d_R_init_39 fR_29 rfl (fun _ => rfl) (fun _ => rfl) (Or.inl rfl) (by omega) a3 (fun h2 p2 => ?_)
  obtain ⟨⟨n2, u2⟩, s2, a4, c2⟩ := p2
  refine q_mkPic d_R_init_42 d_R_init_43 d_R_init_46 d_R_init_47 d_R_init_50 fR_33 rfl (fun _ => rfl) (fun _ => rfl) (Or.inl rfl) (by omega) a4 (fun h3 p3 => ?_)
  obtain ⟨⟨n3, u3⟩, s3, a5, c3⟩ := p3
  refine q_mkPic d_R_init_53 d_R_init_54 d_R_init_57 d_R_init_58 d_R_init_61 fR_36 rfl (fun _ => rfl) (fun _ => rfl) (Or.inl rfl) (by omega) a5 (fun h4 p4 => ?_)
  obtain ⟨⟨n4, u4⟩, s4, a6, c4⟩ := p4
  refine q_vret d_R_init_64 rfl ?_
  have e1 : mN h1 = mN h + 2 := n1
  have e2 : mN h2 = mN h + 11 := by omega
  have e3 : mN h3 = mN h + 20 := by omega
  rw [e1] at c2 a6
  rw [e2] at c3 a6
  rw [e3] at c4 a6
  refine ⟨rfl, ⟨by omega, by omega⟩, fun x hx hxa => (s1 x hx hxa).trans ((s2 x (by omega) hxa).trans ((s3 x (by omega) hxa).trans (s4 x (by omega) hxa))), a6, ((t1.sm (s2 _ (by omega) (Ne.symm hne))).sm (s3 _ (by omega) (Ne.symm hne))).sm (s4 _ (by omega) (Ne.symm hne)), ((t2.sm (s2 _ (by omega) (by omega))).sm (s3 _ (by omega) (by omega))).sm (s4 _ (by omega) (by omega)), (c2.sm (fun y q1 q2 => s3 y (by omega) (by omega))).sm (fun y q1 q2 => s4 y (by omega) (by omega)), c3.sm (fun y q1 q2 => s4 y (by omega) (by omega)), c4⟩
def SN (h : Mem) (a t r : Nat) (h1 : Mem) : Prop := (mN h1 = mN h + 6 ∧ mU h1 = mU h + 139) ∧ (∀ x, x < mN h → x ≠ a → Sm h h1 x) ∧ At h1 a 5 0 Z0 (up (up (up (up (up (up N0 2 (some (mN h))) 3 (some (mN h + 3))) 4 (some (mN h + 4))) 5 (some (mN h + 5))) 0 (some t)) 1 (some r)) ∧ At h1 (mN h) 1 0 Z0 (up (up N0 0 (some (mN h + 1))) 1 (some (mN h + 2))) ∧ At h1 (mN h + 1) 11 64 Z0 N0 ∧ At h1 (mN h + 2) 11 64 Z0 N0 ∧ At h1 (mN h + 3) 11 3 Z0 N0 ∧ At h1 (mN h + 4) 11 2 Z0 N0 ∧ At h1 (mN h + 5) 11 2 Z0 N0
theorem q_S_init {s0 : State} {l : Launch} {h : Mem} {a t r : Nat} (ha : a < mN h) (hA : At h a 5 0 Z0 N0) : CQ s0 l M_S_init [.ref a, .ref t, .ref r] h (fun o h1 => o = .inl none ∧ SN h a t r h1) := by
  refine c_in (by decide) rfl rfl (Nat.le_of_ble_eq_true rfl) ?_
  refine q_aload_n d_S_init_0 rfl rfl ?_
  refine q_objinit d_S_init_1 lS_3 w_obj1 w_obj2 (Nat.le_of_ble_eq_true rfl) (by decide) ?_
  refine q_aload_n d_S_init_4 rfl rfl ?_
  refine q_new (ci := 0) d_S_init_5 (by decide) cS_9 ?_
  refine q_dup d_S_init_8 rfl ?_
  refine q_callIN (As := []) (Q1 := fun h9 => BI (nw h 1 0 4) (mN h) h9) d_S_init_9 nS_11 mc_B_init rfl rfl rfl rfl (Nat.le_of_ble_eq_true rfl) (by decide) (q_B_init (h := nw h 1 0 4) (a := mN h) (Nat.lt_succ_self _) (At.new h 1 0 4)) (fun h2 p2 => ?_)
  obtain ⟨⟨n2, u2⟩, s2, b1, b2, b3⟩ := p2
  have n2 : mN h2 = mN h + 1 + 2 := n2
  have u2 : mU h2 = mU h + 4 + 128 := u2
  have b1 : At h2 (mN h) 1 0 Z0 (up (up N0 0 (some (mN h + 1))) 1 (some (mN h + 1 + 1))) := b1
  have b2 : At h2 (mN h + 1) 11 64 Z0 N0 := b2
  have b3 : At h2 (mN h + 1 + 1) 11 64 Z0 N0 := b3
  have s2 : ∀ x, x < mN h → Sm h h2 x := fun x hx => (Sm.nw hx).trans (s2 x (show x < mN h + 1 by omega) (by omega))
  have a2 := hA.sm (s2 a ha)
  refine q_putR d_S_init_12 fS_12 rfl a2.1 rfl rfl (Or.inr ⟨rfl, rfl⟩) ?_
  have a3 := a2.sR (f := 2) (v := some (mN h))
  have s3 : ∀ x, x ≠ a → Sm h2 (sR h2 a 2 (some (mN h))) x := fun x hx => Sm.sR hx
  have n3 : mN (sR h2 a 2 (some (mN h))) = mN h2 := rfl
  have u3 : mU (sR h2 a 2 (some (mN h))) = mU h2 := rfl
  generalize sR h2 a 2 (some (mN h)) = h3 at a3 s3 n3 u3 ⊢
  refine q_aload_n d_S_init_15 rfl rfl ?_
  refine q_iconst (v := nI 3) d_S_init_16 (by decide) ?_
  refine q_mkA (ci := 4) (kd := 11) (n := 3) d_S_init_17 rfl (by decide) w_aint (by decide) d_S_init_19 fS_18 rfl (fun _ => rfl) (fun _ => rfl) (Or.inr ⟨rfl, rfl⟩) (by omega) a3 (fun h4 p4 => ?_)
  obtain ⟨⟨n4, u4⟩, s4, a4, e4⟩ := p4
  refine q_aload_n d_S_init_22 rfl rfl ?_
  refine q_iconst (v := nI 2) d_S_init_23 (by decide) ?_
  refine q_mkA (ci := 4) (kd := 11) (n := 2) d_S_init_24 rfl (by decide) w_aint (by decide) d_S_init_26 fS_22 rfl (fun _ => rfl) (fun _ => rfl) (Or.inr ⟨rfl, rfl⟩) (by omega) a4 (fun h5 p5 => ?_)
  obtain ⟨⟨n5, u5⟩, s5, a5, e5⟩ := p5
  refine q_aload_n d_S_init_29 rfl rfl ?_
  refine q_iconst (v := nI 2) d_S_init_30 (by decide) ?_
  refine q_mkA (ci := 4) (kd := 11) (n := 2) d_S_init_31 rfl (by decide) w_aint (by decide) d_S_init_33 fS_25 rfl (fun _ => rfl) (fun _ => rfl) (Or.inr ⟨rfl, rfl⟩) (by omega) a5 (fun h6 p6 => ?_)
  obtain ⟨⟨n6, u6⟩, s6, a6, e6⟩ := p6
  refine q_aload_n d_S_init_36 rfl rfl ?_
  refine q_aload_n d_S_init_37 rfl rfl ?_
  refine q_putR d_S_init_38 fS_28 rfl a6.1 rfl rfl (Or.inr ⟨rfl, rfl⟩) ?_
  refine q_aload_n d_S_init_41 rfl rfl ?_
  refine q_aload_n d_S_init_42 rfl rfl ?_
  refine q_putR d_S_init_43 fS_32 rfl (show mK (sR h6 a 0 (some t)) a = 4 + 1 from a6.1) rfl rfl (Or.inr ⟨rfl, rfl⟩) ?_
  refine q_vret d_S_init_46 rfl ?_
  have a7 := (a6.sR (f := 0) (v := some t)).sR (f := 1) (v := some r)
  have s7 : ∀ x, x ≠ a → Sm h6 (sR (sR h6 a 0 (some t)) a 1 (some r)) x := fun x hx => (Sm.sR hx).trans (Sm.sR hx)
  have n7 : mN (sR (sR h6 a 0 (some t)) a 1 (some r)) = mN h6 := rfl
  have u7 : mU (sR (sR h6 a 0 (some t)) a 1 (some r)) = mU h6 := rfl
  refine ⟨rfl, ?_⟩
  generalize sR (sR h6 a 0 (some t)) a 1 (some r) = h7 at a7 s7 n7 u7 ⊢
  have q3 : mN h3 = mN h + 3 := by omega
  have q4 : mN h4 = mN h + 4 := by omega
  have q5 : mN h5 = mN h + 5 := by omega
  rw [q3, q4, q5] at a7
  rw [q3] at e4
  rw [q4] at e5
  rw [q5] at e6
  have sT : ∀ x, x < mN h2 → x ≠ a → Sm h2 h7 x := fun x hx hxa => (s3 x hxa).trans ((s4 x (by omega) hxa).trans ((s5 x (by omega) hxa).trans ((s6 x (by omega) hxa).trans (s7 x hxa))))
  refine ⟨⟨by omega, by omega⟩, fun x hx hxa => (s2 x hx).trans (sT x (by omega) hxa), a7, b1.sm (sT _ (by omega) (by omega)), b2.sm (sT _ (by omega) (by omega)), b3.sm (sT _ (by omega) (by omega)), ((e4.sm (s5 _ (by omega) (by omega))).sm (s6 _ (by omega) (by omega))).sm (s7 _ (by omega)), (e5.sm (s6 _ (by omega) (by omega))).sm (s7 _ (by omega)), e6.sm (s7 _ (by omega))⟩
/-! the whole object: forty cells from b -/
def XI (b : Nat) (h : Mem) : Prop := At h b 7 0 Z0 (up (up (up N0 0 (some (b + 1))) 1 (some (b + 3))) 2 (some (b + 33))) ∧ (At h (b + 1) 6 0 (up Z0 3 (-1)) (up N0 0 (some (b + 2))) ∧ At h (b + 2) 12 4000 Z0 N0) ∧ (At h (b + 3) 4 0 (up (up Z0 2 (nI 1)) 3 (nI 1)) (up (up (up (up (up N0 0 (some (b + 4))) 1 (some (b + 5))) 4 (some (b + 6))) 5 (some (b + 15))) 6 (some (b + 24))) ∧ At h (b + 4) 11 8 Z0 N0 ∧ At h (b + 5) 14 20 Z0 N0 ∧ PicAt h (b + 6) ∧ PicAt h (b + 15) ∧ PicAt h (b + 24)) ∧ At h (b + 33) 5 0 Z0 (up (up (up (up (up (up N0 2 (some (b + 34))) 3 (some (b + 37))) 4 (some (b + 38))) 5 (some (b + 39))) 0 (some (b + 1))) 1 (some (b + 3))) ∧ At h (b + 34) 1 0 Z0 (up (up N0 0 (some (b + 35))) 1 (some (b + 36))) ∧ At h (b + 35) 11 64 Z0 N0 ∧ At h (b + 36) 11 64 Z0 N0 ∧ At h (b + 37) 11 3 Z0 N0 ∧ At h (b + 38) 11 2 Z0 N0 ∧ At h (b + 39) 11 2 Z0 N0
theorem q_X_init {s0 : State} {l : Launch} {h : Mem} {b : Nat} (hb : mN h = b + 1) (hA : At h b 7 0 Z0 N0) : CQ s0 l M_X_init [.ref b] h (fun o h1 => o = .inl none ∧ (mN h1 = b + 40 ∧ mU h1 = mU h + 4252) ∧ (∀ x, x < b → Sm h h1 x) ∧ XI b h1) := by
  refine c_in (by decide) rfl rfl (Nat.le_of_ble_eq_true rfl) ?_
  refine q_aload_n d_X_init_0 rfl rfl ?_
  refine q_objinit d_X_init_1 lX_1 w_obj1 w_obj2 (Nat.le_of_ble_eq_true rfl) (by decide) ?_
  refine q_aload_n d_X_init_4 rfl rfl ?_
  refine q_new (ci := 5) d_X_init_5 (by decide) cX_7 ?_
  refine q_dup d_X_init_8 rfl ?_
  refine q_callIN (As := []) (Q1 := fun h9 => TI (nw h 6 0 4) (mN h) h9) d_X_init_9 nX_9 mc_T_init rfl rfl rfl rfl (Nat.le_of_ble_eq_true rfl) (by decide) (q_T_init (h := nw h 6 0 4) (a := mN h) (Nat.lt_succ_self _) (At.new h 6 0 4)) (fun h2 p2 => ?_)
  rw [hb] at p2
  obtain ⟨⟨n2, u2⟩, s2, t1, t2⟩ := p2
  have n2 : mN h2 = mN h + 1 + 1 := n2
  have u2 : mU h2 = mU h + 4 + 4000 := u2
  have e9 : mN (nw h 6 0 4) = b + 2 := by rw [mN_nw, hb]
  rw [e9] at t1 t2
  have s2 : ∀ x, x < mN h → Sm h h2 x := fun x hx => (Sm.nw hx).trans (s2 x (by rw [e9]; omega) (by omega))
  have a2 := hA.sm (s2 b (by omega))
  rw [hb]
  refine q_putR d_X_init_12 fX_10 rfl a2.1 rfl rfl (Or.inr ⟨rfl, rfl⟩) ?_
  have a3 := a2.sR (f := 0) (v := some (b + 1))
  have s3 : ∀ x, x ≠ b → Sm h2 (sR h2 b 0 (some (b + 1))) x := fun x hx => Sm.sR hx
  have n3 : mN (sR h2 b 0 (some (b + 1))) = mN h2 := rfl
  have u3 : mU (sR h2 b 0 (some (b + 1))) = mU h2 := rfl
  generalize sR h2 b 0 (some (b + 1)) = h3 at a3 s3 n3 u3 ⊢
  have m3 : mN h3 = b + 3 := by omega
  refine q_aload_n d_X_init_15 rfl rfl ?_
  refine q_new (ci := 3) d_X_init_16 (by decide) cX_16 ?_
  refine q_dup d_X_init_19 rfl ?_
  refine q_callIN (As := []) (Q1 := fun h9 => RI (nw h3 4 0 8) (mN h3) h9) d_X_init_20 nX_18 mc_R_init rfl rfl rfl rfl (Nat.le_of_ble_eq_true rfl) (by decide) (q_R_init (h := nw h3 4 0 8) (a := mN h3) (Nat.lt_succ_self _) (At.new h3 4 0 8)) (fun h4 p4 => ?_)
  have e4 : mN (nw h3 4 0 8) = b + 4 := by rw [mN_nw, m3]
  have f4 : mU (nw h3 4 0 8) = mU h3 + 8 := rfl
  unfold RI at p4
  rw [e4, f4, m3] at p4
  obtain ⟨⟨n4, u4⟩, s4, r1, r2, r3, r4, r5, r6⟩ := p4
  have s4 : ∀ x, x < b + 3 → Sm h3 h4 x := fun x hx => (Sm.nw (by omega)).trans (s4 x (by omega) (by omega))
  have a4 := a3.sm (s4 b (by omega))
  rw [m3]
  refine q_putR d_X_init_23 fX_19 rfl a4.1 rfl rfl (Or.inr ⟨rfl, rfl⟩) ?_
  have a5 := a4.sR (f := 1) (v := some (b + 3))
  have s5 : ∀ x, x ≠ b → Sm h4 (sR h4 b 1 (some (b + 3))) x := fun x hx => Sm.sR hx
  have n5 : mN (sR h4 b 1 (some (b + 3))) = mN h4 := rfl
  have u5 : mU (sR h4 b 1 (some (b + 3))) = mU h4 := rfl
  generalize sR h4 b 1 (some (b + 3)) = h5 at a5 s5 n5 u5 ⊢
  have m5 : mN h5 = b + 33 := by omega
  refine q_aload_n d_X_init_26 rfl rfl ?_
  refine q_new (ci := 4) d_X_init_27 (by decide) cX_23 ?_
  refine q_dup d_X_init_30 rfl ?_
  have a6 := a5.sm (Sm.nw (kd := 5) (len := 0) (n := 10) (show b < mN h5 by omega))
  refine q_aload_n d_X_init_31 rfl rfl ?_
  refine q_getR d_X_init_32 fX_10 rfl a6.1 (q := b + 1) (a6.2.2.2 0) ?_
  refine q_aload_n d_X_init_35 rfl rfl ?_
  refine q_getR d_X_init_36 fX_19 rfl a6.1 (q := b + 3) (a6.2.2.2 1) ?_
  refine q_callI (As := [_, _]) (Q1 := fun h9 => SN (nw h5 5 0 10) (mN h5) (b + 1) (b + 3) h9) d_X_init_39 lX_25 mc_S_init rfl rfl rfl rfl (Nat.le_of_ble_eq_true rfl) (by decide) (q_S_init (h := nw h5 5 0 10) (a := mN h5) (Nat.lt_succ_self _) (At.new h5 5 0 10)) (fun h6 p6 => ?_)
  have e6 : mN (nw h5 5 0 10) = b + 34 := by rw [mN_nw, m5]
  have f6 : mU (nw h5 5 0 10) = mU h5 + 10 := rfl
  unfold SN at p6
  rw [e6, f6, m5] at p6
  obtain ⟨⟨n6, u6⟩, s6, c1, c2, c3, c4, c5, c6, c7⟩ := p6
  have s6 : ∀ x, x < b + 33 → Sm h5 h6 x := fun x hx => (Sm.nw (by omega)).trans (s6 x (by omega) (by omega))
  have a7 := a5.sm (s6 b (by omega))
  rw [m5]
  refine q_putR d_X_init_42 fX_28 rfl a7.1 rfl rfl (Or.inr ⟨rfl, rfl⟩) ?_
  have a8 := a7.sR (f := 2) (v := some (b + 33))
  have s8 : ∀ x, x ≠ b → Sm h6 (sR h6 b 2 (some (b + 33))) x := fun x hx => Sm.sR hx
  have n8 : mN (sR h6 b 2 (some (b + 33))) = mN h6 := rfl
  have u8 : mU (sR h6 b 2 (some (b + 33))) = mU h6 := rfl
  refine q_vret d_X_init_45 rfl ?_
  generalize sR h6 b 2 (some (b + 33)) = h8 at a8 s8 n8 u8 ⊢
  have z5 : ∀ x, x < b + 33 → x ≠ b → Sm h4 h8 x := fun x hx hxb => (s5 x hxb).trans ((s6 x hx).trans (s8 x hxb))
  have z3 : ∀ x, x < b + 3 → x ≠ b → Sm h2 h8 x := fun x hx hxb => (s3 x hxb).trans ((s4 x hx).trans (z5 x (by omega) hxb))
  refine ⟨rfl, ⟨by omega, by omega⟩, fun x hx => (s2 x (by omega)).trans (z3 x (by omega) (by omega)), a8, ⟨t1.sm (z3 _ (by omega) (by omega)), t2.sm (z3 _ (by omega) (by omega))⟩, ⟨r1.sm (z5 _ (by omega) (by omega)), r2.sm (z5 _ (by omega) (by omega)), r3.sm (z5 _ (by omega) (by omega)), r4.sm (fun y q1 q2 => z5 y (by omega) (by omega)), r5.sm (fun y q1 q2 => z5 y (by omega) (by omega)), r6.sm (fun y q1 q2 => z5 y (by omega) (by omega))⟩, c1.sm (s8 _ (by omega)), c2.sm (s8 _ (by omega)), c3.sm (s8 _ (by omega)), c4.sm (s8 _ (by omega)), c5.sm (s8 _ (by omega)), c6.sm (s8 _ (by omega)), c7.sm (s8 _ (by omega))⟩

