/-! ===== fields of the classes at any method's state ===== -/
theorem uw {s0 s : State} {args : Array Value} {ci : Nat} (g : G0 s0) (hW : s0.WarmedH s.vm) (hci : ci < 8) : ∀ w ∈ u_ws (cnm ci) (cT ci) (cN ci), w.before args s = true := fun w hw => by
  obtain ⟨av, h⟩ := g
  exact word_at hW (cW_ok hci w hw).2 (h w (cW_ok hci w hw).1)
theorem kn0 {s0 : State} {ci : Nat} (g : G0 s0) (hci : ci < 8) : u_Kn s0 (cnm ci) (cT ci) (cN ci) (xC s0 ci) (xI s0 ci) := by
  obtain ⟨av, h⟩ := id g
  obtain ⟨cC, iS, h1, h2⟩ := u_known (C := cnm ci) (T := cT ci) (N := cN ci) (n := cN ci) (uw (args := av) g (State.WarmedH.refl s0) hci) (fun _ h => h) (h _ (cI_ok hci))
  have e1 : xC s0 ci = cC := by unfold xC; rw [h2.1]; rfl
  refine ⟨fun k hk => ?_, by rw [e1]; exact h2⟩
  obtain ⟨cf, kf, fi, fd, hi, he⟩ := h1 k hk
  have e2 : xI s0 ci k = fd.slot := by unfold xI; rw [hi]
  exact ⟨cf, kf, fi, fd, hi, e2.symm⟩
theorem kn {s0 s : State} {ci : Nat} (g : G0 s0) (hW : s0.WarmedH s.vm) (hci : ci < 8) : u_Kn s (cnm ci) (cT ci) (cN ci) (xC s0 ci) (xI s0 ci) := u_Kn_moved hW.alike (kn0 g hci)
theorem fAt {s0 s : State} {ci k : Nat} (args : Array Value) (g : G0 s0) (hW : s0.WarmedH s.vm) (hci : ci < 8) (hk : k < cN ci) : ∃ cf kf fi f, s.fieldFound? (cnm ci) (cT ci k).2.1 (cT ci k).2.2.1 = some (cf, kf, fi, f) ∧ f.isStatic = false ∧ f.slot = xI s0 ci k ∧
    (∀ v, narrow (cY ci k) v = v → fits (cY ci k) v = true → narrow f.type v = v ∧ s.fitsSlot (xC s0 ci) .none f.slot v = true) ∧ ((cT ci k).2.2.2 = false → hasFlag f.accessFlags Acc.final = false) ∧ ((cT ci k).2.2.2 = true → ∀ m : MethodId, s.vm.findClass (cnm ci) = some m.cls → m.cls = cf) := by
  obtain ⟨hS, hfc, kC, hkC, hkind⟩ := kn g hW hci
  obtain ⟨cf, kf, fi, f, hi, hsl⟩ := hS k hk
  have hts := uw (args := args) g hW hci
  have hl := u_lays hts (fun _ h => h) hk
  have hlay := hts _ (u_in_lay hk)
  have hD := cD_ok hci k hk
  refine ⟨cf, kf, fi, f, by rw [← hD]; exact hi, (u_facts hfc hkC hl hi).1, hsl, fun v hn hf => u_fits hfc hkC hkind hl hi (cY_ok hci k hk) hn hf, fun hfin => ?_, fun hfin m hm => ?_⟩
  · unfold u_lay at hlay
    rw [if_neg (by rw [hfin]; decide)] at hlay
    obtain ⟨c, k9, cf', kf', fi', fd', r1, r2, hi', hst, hfin', -⟩ := Cond.lays_spec hlay
    cases hi.symm.trans hi'
    exact hfin'
  · unfold u_lay at hlay
    rw [if_pos hfin] at hlay
    obtain ⟨_, _, c', _, _, _, -, -, hf', -, -, -, hown2, -⟩ := Cond.laysFinal_spec hlay
    have e1 : c' = cf := by have := hi.symm.trans hf'; simp at this; exact this.1.symm
    rw [hD] at hown2
    rw [← e1]; exact Option.some.inj (hm.symm.trans hown2)
theorem xI_apart {s0 : State} {ci : Nat} (g : G0 s0) (hci : ci < 8) : ∀ x y, x < cN ci → y < cN ci → x ≠ y → xI s0 ci x ≠ xI s0 ci y := by
  intro x y hx hy hne
  obtain ⟨hS, -⟩ := kn0 g hci
  have hts := uw (args := #[]) g (State.WarmedH.refl s0) hci
  obtain ⟨_, _, _, fa, hia, ea⟩ := hS x hx
  obtain ⟨_, _, _, fb, hib, eb⟩ := hS y hy
  rw [← ea, ← eb]
  refine u_apart (u_lays hts (fun _ h => h) hx) (u_lays hts (fun _ h => h) hy) hia hib ?_
  rw [(State.fieldFound?_type hia (cY_ok hci x hx)).1, (State.fieldFound?_type hib (cY_ok hci y hy)).1]
  exact cN_ok hci x hx y hy hne
theorem t_set9 {cell : Cell} {N : Nat} {iS : Nat → Nat} {V V' : Nat → Value} (h : ∀ k, k < N → cell.slots[iS k]? = some (V k)) (hap : ∀ a b, a < N → b < N → a ≠ b → iS a ≠ iS b) {k : Nat} (hk : k < N) (v : Value) (hv : ∀ j, j < N → V' j = if j = k then v else V j) :
    ∀ j, j < N → (cell.setSlot (iS k) v).slots[iS j]? = some (V' j) := by
  intro j hj
  rw [t_set h hap hk v j hj, hv j hj]
  rfl
section Rules
variable {s0 : State} {l : Launch} {M : MI} {h0 : Mem} {pc : Nat} {L : List (Option Value)} {st : List Value} {h : Mem} {Q : Out → Mem → Prop}
theorem EN.g {p : Program} {s : State} {m : MethodId} {meth : Method} {c : Code} (E : EN s0 l M h0 p s m meth c) : G0 s0 := E.2.2.2.2.2.2.2.2.2.2.2.2.1
theorem EN.w {p : Program} {s : State} {m : MethodId} {meth : Method} {c : Code} (E : EN s0 l M h0 p s m meth c) : s0.WarmedH s.vm := E.2.2.2.2.2.2.2.2.1
theorem EN.cx {p : Program} {s : State} {m : MethodId} {meth : Method} {c : Code} (E : EN s0 l M h0 p s m meth c) : CX s0 l := E.2.2.2.2.2.2.2.2.2.2.2.2
theorem EN.own {p : Program} {s : State} {m : MethodId} {meth : Method} {c : Code} (E : EN s0 l M h0 p s m meth c) : s.vm.findClass (iY M).cls = some m.cls := E.2.2.2.1
theorem EN.froz {p : Program} {s : State} {m : MethodId} {meth : Method} {c : Code} (E : EN s0 l M h0 p s m meth c) : ∀ q, q < s0.heap.size → s.heap[q]? = s0.heap[q]? := E.2.2.2.2.2.2.2.2.2.1
theorem EN.size {p : Program} {s : State} {m : MethodId} {meth : Method} {c : Code} (E : EN s0 l M h0 p s m meth c) : s.heap.size = mN h0 := E.2.2.2.2.2.2.2.2.2.2.1
theorem ST.vaS {p : Program} {s : State} {m : MethodId} {meth : Method} {c : Code} {H : Heap} {locs : List Loc} {ls : Array Slot} (E : EN s0 l M h0 p s m meth c) (S : ST s0 M h0 h L H locs ls) : va_S (frOf s0) s.heap H locs :=
  ⟨by rw [E.size, S.1.1]; exact S.2.2.2.1, fun q _ hq => by
    have hq' : q < s0.heap.size := Nat.not_le.mp hq
    rw [S.1.2.2.1 q hq', E.froz q hq'], S.2.1⟩
theorem get_q {a idx ci k : Nat} {v : Value} (hd : decode (iC M) pc = .ok (.getfield idx, 3)) (hf : FL (iY M).cls idx ci k) (hk : mK h a = ci + 1) (hv : fV h ci a k = v) (kk : RQ s0 l M h0 (pc + 3) L (v :: st) h Q) : RQ s0 l M h0 pc L (.ref a :: st) h Q := by
  refine lift1 (fun _ _ k9 => ⟨k9.1, fun p e s m args below meth c E H locs ls S => ?_⟩) kk
  obtain ⟨cell, c1, c2, c3, c4⟩ := S.1.obj hf.1 hk
  obtain ⟨cf, kf, fi, f, hi, hst, hsl, -⟩ := fAt args E.g E.w hf.1 hf.2.1
  refine W.getf E.1 E.2.1 E.own (E.g.word E.w hf.2.2 rfl) hi hst c1 (by rw [c3]; exact fun h => by cases h) (v := v) ?_ rfl rfl hd (k9.2 p e s m args below meth c E H locs ls S)
  rw [hsl, ← hv]
  exact c4 k hf.2.1
theorem q_getI {a idx ci k : Nat} (hd : decode (iC M) pc = .ok (.getfield idx, 3)) (hf : FL (iY M).cls idx ci k) (ht : isR ci k = false) (hk : mK h a = ci + 1) (kk : RQ s0 l M h0 (pc + 3) L (.int (mI h a k) :: st) h Q) : RQ s0 l M h0 pc L (.ref a :: st) h Q :=
  get_q hd hf hk (by unfold fV; rw [if_neg (by rw [ht]; decide)]) kk
theorem q_getR {a idx ci k q : Nat} (hd : decode (iC M) pc = .ok (.getfield idx, 3)) (hf : FL (iY M).cls idx ci k) (ht : isR ci k = true) (hk : mK h a = ci + 1) (hr : mR h a k = some q) (kk : RQ s0 l M h0 (pc + 3) L (.ref q :: st) h Q) : RQ s0 l M h0 pc L (.ref a :: st) h Q :=
  get_q hd hf hk (by unfold fV; rw [if_pos ht, hr]; rfl) kk
theorem q_getN {a idx ci k : Nat} (hd : decode (iC M) pc = .ok (.getfield idx, 3)) (hf : FL (iY M).cls idx ci k) (ht : isR ci k = true) (hk : mK h a = ci + 1) (hr : mR h a k = none) (kk : RQ s0 l M h0 (pc + 3) L (.null :: st) h Q) : RQ s0 l M h0 pc L (.ref a :: st) h Q :=
  get_q hd hf hk (by unfold fV; rw [if_pos ht, hr]; rfl) kk
theorem put_q {a idx ci k : Nat} {v : Value} {h' : Mem} (hd : decode (iC M) pc = .ok (.putfield idx, 3)) (hf : FL (iY M).cls idx ci k) (hk : mK h a = ci + 1) (hn : narrow (cY ci k) v = v) (hfit : fits (cY ci k) v = true) (hfin : (cT ci k).2.2.2 = false ∨ ((iY M).cls = cnm ci ∧ (iY M).name = "<init>"))
    (hK : mK h' = mK h) (hL : mL h' = mL h) (hN : mN h' = mN h) (hU : mU h' = mU h) (hJ : mJ h' = mJ h) (hg : ∀ b, b ≠ a → (∀ i, mI h' b i = mI h b i) ∧ ∀ i, mR h' b i = mR h b i) (hv : ∀ j, j < cN ci → fV h' ci a j = if j = k then v else fV h ci a j)
    (kk : RQ s0 l M h0 (pc + 3) L st h' Q) : RQ s0 l M h0 pc L (v :: .ref a :: st) h Q := by
  refine lift1 (fun _ _ k9 => ⟨by rw [← hN, ← hU]; exact k9.1, fun p e s m args below meth c E H locs ls S => ?_⟩) kk
  obtain ⟨cell, c1, c2, c3, c4⟩ := S.1.obj hf.1 hk
  obtain ⟨cf, kf, fi, f, hi, hst, hsl, hfs, hf1, hf2⟩ := fAt args E.g E.w hf.1 hf.2.1
  obtain ⟨n1, n2⟩ := hfs v hn hfit
  have ha : a < H.size := (Array.getElem?_eq_some_iff.mp c1).1
  have ho : s0.heap.size ≤ a := S.1.own (by omega) (by have := hf.1; omega)
  refine W.putf E.1 E.2.1 E.own (E.g.word E.w hf.2.2 rfl) hi hst ?_ c1 (by rw [c3]; exact fun h => by cases h) (by rw [hsl]; exact k2_hasslot (c4 k hf.2.1)) n1 (by rw [c2, c3]; exact n2) rfl rfl hd ?_
  · cases hb : (cT ci k).2.2.2 with
    | false => exact Or.inl (hf1 hb)
    | true =>
      rcases hfin with h9 | ⟨h8, h9⟩
      · rw [hb] at h9; cases h9
      · exact Or.inr ⟨hf2 hb m (by rw [← h8]; exact E.own), E.2.2.2.2.2.2.1.trans h9⟩
  · have := k9.2 p e s m args below meth c E (H.setIfInBounds a (cell.setSlot f.slot v)) (locs ++ [⟨a, f.slot⟩]) ls ⟨?_, ?_, S.2.2.1, by rw [hN]; exact S.2.2.2.1, by rw [hU]; exact S.2.2.2.2⟩
    · rw [hN, hU] at this
      exact this
    · refine S.1.upd (a := a) (cell' := cell.setSlot f.slot v) ho (by simp [Array.getElem?_setIfInBounds, ha]) (by simp) (fun q hq => by simp [Array.getElem?_setIfInBounds, Ne.symm hq]) hN (fun b hb => ⟨by rw [hK], by rw [hL], (hg b hb).1, (hg b hb).2, fun i => by rw [hJ]⟩) (fun _ => ?_)
      refine cOK_obj hf.1 (by rw [hK]; exact hk) c2 c3 ?_
      rw [hsl]
      exact t_set9 c4 (xI_apart E.g hf.1) hf.2.1 v hv
    · intro q hq
      rcases List.mem_append.mp hq with h9 | h9
      · exact S.2.1 q h9
      · rw [List.mem_singleton.mp h9]
        exact ho
theorem q_putI {a idx ci k : Nat} {x : Int32} (hd : decode (iC M) pc = .ok (.putfield idx, 3)) (hf : FL (iY M).cls idx ci k) (ht : isR ci k = false) (hk : mK h a = ci + 1) (hn : narrow (cY ci k) (.int x) = .int x) (hfit : fits (cY ci k) (.int x) = true) (hfin : (cT ci k).2.2.2 = false ∨ ((iY M).cls = cnm ci ∧ (iY M).name = "<init>"))
    (kk : RQ s0 l M h0 (pc + 3) L st (sI h a k x) Q) : RQ s0 l M h0 pc L (.int x :: .ref a :: st) h Q := by
  refine put_q (h' := sI h a k x) hd hf hk hn hfit hfin rfl rfl rfl rfl rfl (fun b hb => ⟨fun i => by simp [mI_sI, hb], fun i => rfl⟩) (fun j _ => ?_) kk
  unfold fV
  by_cases e : j = k
  · subst e
    simp [ht, mI_sI]
  · simp [e, mI_sI, mR_sI]
theorem q_putR {a idx ci k q : Nat} (hd : decode (iC M) pc = .ok (.putfield idx, 3)) (hf : FL (iY M).cls idx ci k) (ht : isR ci k = true) (hk : mK h a = ci + 1) (hn : narrow (cY ci k) (.ref q) = .ref q) (hfit : fits (cY ci k) (.ref q) = true) (hfin : (cT ci k).2.2.2 = false ∨ ((iY M).cls = cnm ci ∧ (iY M).name = "<init>"))
    (kk : RQ s0 l M h0 (pc + 3) L st (sR h a k (some q)) Q) : RQ s0 l M h0 pc L (.ref q :: .ref a :: st) h Q := by
  refine put_q (h' := sR h a k (some q)) hd hf hk hn hfit hfin rfl rfl rfl rfl rfl (fun b hb => ⟨fun i => rfl, fun i => by simp [mR_sR, hb]⟩) (fun j _ => ?_) kk
  unfold fV
  by_cases e : j = k
  · subst e
    simp [ht, mR_sR, va_rf]
  · simp [e, mR_sR, mI_sR]
theorem loc1 {locs : List Loc} {a i : Nat} (h1 : ∀ q ∈ locs, frOf s0 q.base) (h2 : s0.heap.size ≤ a) : ∀ q ∈ locs ++ [(⟨a, i⟩ : Loc)], frOf s0 q.base := fun q hq => by
  rcases List.mem_append.mp hq with h9 | h9
  · exact h1 q h9
  · rw [List.mem_singleton.mp h9]
    exact h2
theorem vp_lt {j : Int32} {n : Nat} (h : vp_in j n) : j.toNatClampNeg < n := Nat.not_le.mp fun q => h (Or.inr q)
theorem q_iaload {a : Nat} {j : Int32} (hd : decode (iC M) pc = .ok (.iaload, 1)) (hk : mK h a = 11 ∨ mK h a = 21) (hin : vp_in j (mL h a)) (kk : RQ s0 l M h0 (pc + 1) L (.int (mI h a j.toNatClampNeg) :: st) h Q) : RQ s0 l M h0 pc L (.int j :: .ref a :: st) h Q := by
  refine lift1 (fun _ _ k9 => ⟨k9.1, fun p e s m args below meth c E H locs ls S => ?_⟩) kk
  obtain ⟨cell, c1, c2, c3, c4, c5, c6⟩ := S.1.a11 hk
  exact W.iald E.1 E.2.1 c1 (State.isArrayOf_alike E.w.alike c2) c3 (by rw [c4]; exact hin) (c6 _ (vp_lt hin)) rfl rfl hd (k9.2 p e s m args below meth c E H locs ls S)
theorem q_baload {a : Nat} {j : Int32} (hd : decode (iC M) pc = .ok (.baload, 1)) (hk : mK h a = 12) (hin : vp_in j (mL h a)) (kk : RQ s0 l M h0 (pc + 1) L (.int (mI h a j.toNatClampNeg) :: st) h Q) : RQ s0 l M h0 pc L (.int j :: .ref a :: st) h Q := by
  refine lift1 (fun _ _ k9 => ⟨k9.1, fun p e s m args below meth c E H locs ls S => ?_⟩) kk
  obtain ⟨cell, c1, c2, c3, c4, c5, c6⟩ := S.1.a12 hk
  exact W.bald E.1 E.2.1 c1 (State.isArrayOf_alike E.w.alike c2) c3 (by rw [c4]; exact hin) (c6 _ (vp_lt hin)) rfl rfl hd (k9.2 p e s m args below meth c E H locs ls S)
theorem q_laload {a : Nat} {j : Int32} (hd : decode (iC M) pc = .ok (.laload, 1)) (hk : mK h a = 13) (hin : vp_in j (mL h a)) (kk : RQ s0 l M h0 (pc + 1) L (.long (mJ h a j.toNatClampNeg) :: st) h Q) : RQ s0 l M h0 pc L (.int j :: .ref a :: st) h Q := by
  refine lift1 (fun _ _ k9 => ⟨k9.1, fun p e s m args below meth c E H locs ls S => ?_⟩) kk
  obtain ⟨cell, c1, c2, c3, c4, c5, c6⟩ := S.1.a13 hk
  exact W.lald E.1 E.2.1 c1 (State.isArrayOf_alike E.w.alike c2) c3 (by rw [c4]; exact hin) (c6 _ (vp_lt hin)) rfl rfl hd (k9.2 p e s m args below meth c E H locs ls S)
theorem q_aaload {a ci q : Nat} {j : Int32} (hd : decode (iC M) pc = .ok (.aaload, 1)) (hci : ci = 1 ∨ ci = 2) (hk : mK h a = ci + 13) (hin : vp_in j (mL h a)) (hr : mR h a j.toNatClampNeg = some q) (kk : RQ s0 l M h0 (pc + 1) L (.ref q :: st) h Q) : RQ s0 l M h0 pc L (.int j :: .ref a :: st) h Q := by
  refine lift1 (fun _ _ k9 => ⟨k9.1, fun p e s m args below meth c E H locs ls S => ?_⟩) kk
  obtain ⟨cell, c1, ⟨c2, c3, c4, c5, c6⟩, -⟩ := S.1.aq hci hk
  exact W.aald (v := .ref q) E.1 E.2.1 c1 (State.isArrayOf_alike E.w.alike c2) rfl c3 (by rw [c4]; exact hin) (by rw [c6 _ (vp_lt hin)]; simp only [hr]; rfl) rfl rfl hd (k9.2 p e s m args below meth c E H locs ls S)
theorem q_aaloadN {a ci : Nat} {j : Int32} (hd : decode (iC M) pc = .ok (.aaload, 1)) (hci : ci = 1 ∨ ci = 2) (hk : mK h a = ci + 13) (hin : vp_in j (mL h a)) (hr : mR h a j.toNatClampNeg = none) (kk : RQ s0 l M h0 (pc + 1) L (.null :: st) h Q) : RQ s0 l M h0 pc L (.int j :: .ref a :: st) h Q := by
  refine lift1 (fun _ _ k9 => ⟨k9.1, fun p e s m args below meth c E H locs ls S => ?_⟩) kk
  obtain ⟨cell, c1, ⟨c2, c3, c4, c5, c6⟩, -⟩ := S.1.aq hci hk
  exact W.aald (v := .null) E.1 E.2.1 c1 (State.isArrayOf_alike E.w.alike c2) rfl c3 (by rw [c4]; exact hin) (by rw [c6 _ (vp_lt hin)]; simp only [hr]; rfl) rfl rfl hd (k9.2 p e s m args below meth c E H locs ls S)
theorem q_alen {a : Nat} (hd : decode (iC M) pc = .ok (.arraylength, 1)) (hk : mK h a = 11 ∨ mK h a = 21) (kk : RQ s0 l M h0 (pc + 1) L (.int (nI (mL h a)) :: st) h Q) : RQ s0 l M h0 pc L (.ref a :: st) h Q := by
  refine lift1 (fun _ _ k9 => ⟨k9.1, fun p e s m args below meth c E H locs ls S => ?_⟩) kk
  obtain ⟨cell, c1, c2, c3, c4, c5, c6⟩ := S.1.a11 hk
  exact W.alen (n := nI (mL h a)) E.1 E.2.1 c1 (State.isArrayOf_alike E.w.alike c2) (by rw [c4]; rfl) rfl rfl hd (k9.2 p e s m args below meth c E H locs ls S)
theorem q_alenQ {a ci : Nat} (hd : decode (iC M) pc = .ok (.arraylength, 1)) (hci : ci = 1 ∨ ci = 2) (hk : mK h a = ci + 13) (kk : RQ s0 l M h0 (pc + 1) L (.int (nI (mL h a)) :: st) h Q) : RQ s0 l M h0 pc L (.ref a :: st) h Q := by
  refine lift1 (fun _ _ k9 => ⟨k9.1, fun p e s m args below meth c E H locs ls S => ?_⟩) kk
  obtain ⟨cell, c1, ⟨c2, c3, c4, c5, c6⟩, -⟩ := S.1.aq hci hk
  exact W.alen (n := nI (mL h a)) E.1 E.2.1 c1 (State.isArrayOf_alike E.w.alike c2) (by rw [c4]; rfl) rfl rfl hd (k9.2 p e s m args below meth c E H locs ls S)
theorem q_iastore {a : Nat} {j x : Int32} (hd : decode (iC M) pc = .ok (.iastore, 1)) (hk : mK h a = 11) (hin : vp_in j (mL h a)) (kk : RQ s0 l M h0 (pc + 1) L st (sI h a j.toNatClampNeg x) Q) : RQ s0 l M h0 pc L (.int x :: .int j :: .ref a :: st) h Q := by
  refine lift1 (h' := sI h a j.toNatClampNeg x) (fun _ _ k9 => ⟨k9.1, fun p e s m args below meth c E H locs ls S => ?_⟩) kk
  obtain ⟨cell, c1, c2⟩ := S.1.a11 (Or.inl hk)
  have ho := S.1.own (a := a) (by omega) (by omega)
  refine W.iast E.1 E.2.1 c1 (State.isArrayOf_alike E.w.alike c2.1) c2.2.1 (by rw [c2.2.2.1]; exact hin) rfl rfl hd (fun H9 e1 e2 e3 => ?_)
  refine k9.2 p e s m args below meth c E H9 _ ls ⟨S.1.upd (a := a) ho e1 e2 e3 rfl (fun b hb => ⟨rfl, rfl, fun i => by simp [mI_sI, hb], fun i => rfl, fun i => rfl⟩) (fun _ => ?_), loc1 S.2.1 ho, S.2.2⟩
  unfold cOK
  rw [if_pos (Or.inl (by rw [mK_sI]; exact hk))]
  exact c2.set (vp_lt hin) (fun i _ => by simp only [mI_sI, true_and]; split <;> rfl)
theorem q_bastore {a : Nat} {j x : Int32} (hd : decode (iC M) pc = .ok (.bastore, 1)) (hk : mK h a = 12) (hin : vp_in j (mL h a)) (kk : RQ s0 l M h0 (pc + 1) L st (sI h a j.toNatClampNeg x.toInt8.toInt32) Q) : RQ s0 l M h0 pc L (.int x :: .int j :: .ref a :: st) h Q := by
  refine lift1 (h' := sI h a j.toNatClampNeg x.toInt8.toInt32) (fun _ _ k9 => ⟨k9.1, fun p e s m args below meth c E H locs ls S => ?_⟩) kk
  obtain ⟨cell, c1, c2⟩ := S.1.a12 hk
  have ho := S.1.own (a := a) (by omega) (by omega)
  refine W.bast E.1 E.2.1 c1 (State.isArrayOf_alike E.w.alike c2.1) c2.2.1 (by rw [c2.2.2.1]; exact hin) rfl rfl hd (fun H9 e1 e2 e3 => ?_)
  refine k9.2 p e s m args below meth c E H9 _ ls ⟨S.1.upd (a := a) ho e1 e2 e3 rfl (fun b hb => ⟨rfl, rfl, fun i => by simp [mI_sI, hb], fun i => rfl, fun i => rfl⟩) (fun _ => ?_), loc1 S.2.1 ho, S.2.2⟩
  unfold cOK
  rw [if_neg (by rw [mK_sI]; omega), if_pos (by rw [mK_sI]; exact hk)]
  exact c2.set (vp_lt hin) (fun i _ => by simp only [mI_sI, true_and, narrow_byte]; split <;> rfl)
theorem q_lastore {a : Nat} {j : Int32} {x : Int64} (hd : decode (iC M) pc = .ok (.lastore, 1)) (hk : mK h a = 13) (hin : vp_in j (mL h a)) (kk : RQ s0 l M h0 (pc + 1) L st (sJ h a j.toNatClampNeg x) Q) : RQ s0 l M h0 pc L (.long x :: .int j :: .ref a :: st) h Q := by
  refine lift1 (h' := sJ h a j.toNatClampNeg x) (fun _ _ k9 => ⟨k9.1, fun p e s m args below meth c E H locs ls S => ?_⟩) kk
  obtain ⟨cell, c1, c2⟩ := S.1.a13 hk
  have ho := S.1.own (a := a) (by omega) (by omega)
  refine W.last E.1 E.2.1 c1 (State.isArrayOf_alike E.w.alike c2.1) c2.2.1 (by rw [c2.2.2.1]; exact hin) rfl rfl hd (fun H9 e1 e2 e3 => ?_)
  refine k9.2 p e s m args below meth c E H9 _ ls ⟨S.1.upd (a := a) ho e1 e2 e3 rfl (fun b hb => ⟨rfl, rfl, fun i => rfl, fun i => rfl, fun i => by simp [mJ, sJ, hb]⟩) (fun _ => ?_), loc1 S.2.1 ho, S.2.2⟩
  have hk' : mK (sJ h a j.toNatClampNeg x) a = 13 := hk
  unfold cOK
  rw [if_neg (by omega), if_neg (by omega), if_pos hk']
  exact c2.set (vp_lt hin) (fun i _ => by simp only [mJ, sJ, true_and]; split <;> rfl)
theorem q_aastore {a ci v : Nat} {j : Int32} (hd : decode (iC M) pc = .ok (.aastore, 1)) (hci : ci = 1 ∨ ci = 2) (hk : mK h a = ci + 13) (hin : vp_in j (mL h a)) (hkv : mK h v = ci + 1) (kk : RQ s0 l M h0 (pc + 1) L st (sR h a j.toNatClampNeg (some v)) Q) : RQ s0 l M h0 pc L (.ref v :: .int j :: .ref a :: st) h Q := by
  refine lift1 (h' := sR h a j.toNatClampNeg (some v)) (fun _ _ k9 => ⟨k9.1, fun p e s m args below meth c E H locs ls S => ?_⟩) kk
  obtain ⟨cell, c1, c2, kA, comp, c3, c4, c5⟩ := S.1.aq hci hk
  obtain ⟨cv, v1, v2, v3, -⟩ := S.1.obj (ci := ci) (by omega) hkv
  have ho := S.1.own (a := a) (by omega) (by omega)
  have hal := E.w.alike
  obtain ⟨kA', hkA', heA⟩ := hal.2.2 _ _ c3
  obtain ⟨hS, hfc, kC, hkC, hkind⟩ := kn E.g E.w (ci := ci) (by omega)
  have hcomp : comp = xC s0 ci := by
    have h1 := (kn0 E.g (ci := ci) (by omega)).2.1
    exact Option.some.inj (c5.symm.trans h1)
  refine W.aast (k := kA') (kv := kC) (kcomp := kC) (comp := comp) (t := .object (cnm ci)) E.1 E.2.1 c1 c2.1.1 c2.2.1 hkA' (by rw [heA]; exact c4) rfl (by rw [hcomp]; exact hkC) ⟨fun h9 => hin (Or.inl h9), by rw [c2.2.2.1]; exact vp_lt hin⟩ v1 (by rw [v3]; intro k h9; cases h9) (by rw [v2]; exact hkC) (by rw [v2, hcomp]; exact va_assign ⟨hfc, kC, hkC, hkind⟩) rfl rfl hd (fun H9 e1 e2 e3 => ?_)
  refine k9.2 p e s m args below meth c E H9 _ ls ⟨S.1.upd (a := a) ho e1 e2 e3 rfl (fun b hb => ⟨rfl, rfl, fun i => rfl, fun i => by simp [mR_sR, hb], fun i => rfl⟩) (fun _ => ?_), loc1 S.2.1 ho, S.2.2⟩
  have hk' : mK (sR h a j.toNatClampNeg (some v)) a = ci + 13 := hk
  have hg : ∀ i, i < mL h a → va_rf (mR (sR h a j.toNatClampNeg (some v)) a i) = if i = j.toNatClampNeg then .ref v else va_rf (mR h a i) := fun i _ => by simp only [mR_sR, true_and]; split <;> rfl
  unfold cOK
  rcases hci with rfl | rfl
  · rw [if_neg (by omega), if_neg (by omega), if_neg (by omega), if_pos (by omega)]
    exact ⟨c2.set (vp_lt hin) hg, kA, comp, c3, c4, c5⟩
  · rw [if_neg (by omega), if_neg (by omega), if_neg (by omega), if_neg (by omega), if_pos (by omega)]
    exact ⟨c2.set (vp_lt hin) hg, kA, comp, c3, c4, c5⟩
theorem q_gets {idx i : Nat} (hd : decode (iC M) pc = .ok (.getstatic idx, 3)) (hi : i < 3) (hf : Cond.fieldLink (iY M).cls idx (sC i) (sNm i) "[I" ∈ lw_tbl) (kk : RQ s0 l M h0 (pc + 3) L (.ref (sA s0 i) :: st) h Q) : RQ s0 l M h0 pc L st h Q := by
  refine lift1 (fun _ _ k9 => ⟨k9.1, fun p e s m args below meth c E H locs ls S => ?_⟩) kk
  have hZ := va_Z.moved E.w.alike (((E.cx.2.2.2.2 i hi)).kept (H1 := s.heap) (fun a ha hna => E.froz a ha))
  exact va_gets E.1 E.2.1 hZ (S.vaS E) E.own (E.g.word E.w hf rfl) (fun _ h9 => h9) hd (k9.2 p e s m args below meth c E H locs ls S)
end Rules
