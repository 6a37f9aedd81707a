section XThrow
variable {p : Program} {l : Launch} {e : Env} {R : Room} {s : State} {m : MethodId} {args : Array Value} {below : List Frame} {meth : Method} {c : Code} {H : Heap} {locs : List Loc} {cells slots : Nat} {Q : State → Prop}
variable {mc ms : Nat} {free : Addr → Prop} {A0 A1 : Nat → Prop} {H0 : Heap} {a : Array Value} {ls : Array Slot} {st0 rest : List Value}
variable {Qc : Array Value → State → Outcome → State → Prop} {XC : String → State → State → Prop}
/-- 'throw new E()': new; dup; invokespecial; athrow -/
theorem x_throw0 {cc : ByteArray} {pc : Nat} (hexec : p.tables.exec = Jvm.exec) (hb : c.code = cc) (hl : l.stackTraces = false) {own cls : String} {names : List String} {ik ic mc ms : Nat} {A : Nat → Prop}
    (hown : s.vm.findClass own = some m.cls) (hcls : Bundle.fit cls = true) (hnames : ∀ n ∈ names, Bundle.fit n = true)
    (hk : (Cond.classLink own ik cls).before args s = true) (hini : (Cond.initialized cls).before args s = true) (hat : ∀ w ∈ vx_at0 own ic cls names, w.before args s = true)
    (hgood : ∀ w ∈ Cond.classLink own ik cls :: Cond.initialized cls :: vx_at0 own ic cls names, vx_ot w = true)
    (hU : vx_Zq Bundle.tN "UNASSIGNED_STACK" Bundle.steD A s s.heap) (hN : vx_Zq Bundle.tN "SUPPRESSED_SENTINEL" Bundle.listD A s s.heap) (hS : va_S A s.heap H locs) (hsize : ls.size = c.maxLocals)
    (d0 : decode cc pc = .ok (.new ik, 3)) (d3 : decode cc (pc + 3) = .ok (.dup, 1)) (d4 : decode cc (pc + 4) = .ok (.invokespecial ic, 3)) (d7 : decode cc (pc + 7) = .ok (.athrow, 1))
    (hout : ∀ x ∈ c.exceptionTable.toList, covers x (pc + 7) = false)
    (hRframes : names.length + 3 < R.frames) (hRlocals : (rest.map fun v => v.category).sum + (13 * (names.length + 1) + 42) ≤ R.locals) (hRcells : cells + 1 ≤ R.cells) (hRslots : slots + 6 ≤ R.slots) (hlocks : meth.locks = false)
    (hx : ∀ t : State, s.vm.Alike t.vm → t.heap.size = H.size + 1 → (∀ q : Nat, q < H.size → t.heap[q]? = H[q]?) → XC cls s t)
    (hf : ∀ z ∈ locs, free z.base) (hc : cells + 1 ≤ mc) (hs : slots + 6 ≤ ms) :
    W p l e R s m args below meth c H locs cells slots (vx_MQ below Qc XC args s mc ms free) (F0 m pc ls rest) := by
  intro T hT X
  have htr : e.platform.stackTraces = false := (show e.platform.stackTraces = l.stackTraces by rw [X.admits.platform]).trans hl
  have Y := vx_rebase X (R' := { frames := R.frames, locals := R.locals, cells := 1, slots := 6 }) (Nat.le_refl _) (Nat.le_refl _) hRcells hRslots
  obtain ⟨s', hA⟩ : ∃ z, z = (T.setVm s.vm).setFrames (.invoking m args :: below) := ⟨_, rfl⟩
  rw [← hA] at Y
  have hvm : s'.vm = s.vm := by rw [hA]; rfl
  have hhp : s'.heap = H := by rw [hA]; exact hT
  have hW0 : s.WarmedH s'.vm := by rw [hvm]; exact State.WarmedH.refl s
  have hat' : ∀ w ∈ vx_at0 own ic cls names, w.before args s' = true := fun w hw => vx_ot_at hW0 hvm.symm (hgood w (List.mem_cons_of_mem _ (List.mem_cons_of_mem _ hw))) (hat w hw)
  have hk' : (Cond.classLink own ik cls).before args s' = true := vx_ot_at hW0 hvm.symm (hgood _ List.mem_cons_self) hk
  have hini' : (Cond.initialized cls).before args s' = true := vx_ot_at hW0 hvm.symm (hgood _ (List.mem_cons_of_mem _ List.mem_cons_self)) hini
  have hU' : vx_Zq Bundle.tN "UNASSIGNED_STACK" Bundle.steD A s' s'.heap := by rw [hhp]; exact vx_Zq.moved hW0.alike (hU.kept hS.2.1)
  have hN' : vx_Zq Bundle.tN "SUPPRESSED_SENTINEL" Bundle.listD A s' s'.heap := by rw [hhp]; exact vx_Zq.moved hW0.alike (hN.kept hS.2.1)
  have h : ∀ w ∈ Bundle.ownAtoms0 own ic cls names, w.before args s' = true := vx_own hat' (vx_isRefq hU'.1) (vx_isRefq hN'.1) hU'.2.word hN'.2.word
  have hown' : s'.vm.findClass own = some m.cls := by rw [hvm]; exact hown
  have hins : (Cond.instantiable cls 6).before args s' = true := h _ (by simp [Bundle.ownAtoms0])
  obtain ⟨vm₁, cX, kX, hfX, hkX, -, -, X₁, st1⟩ := Y.newCold hexec (own := own) (C := cls) (index := ik) (n := 6) hown' hk' hins hini'
    (g := F0 m pc ls rest) rfl (by rw [hb]; exact d0) (Nat.le_refl _) (Nat.le_refl _)
  generalize hT1 : (T.setVm vm₁).pushCell { cls := cX, slots := kX.instanceTypes.map defaultValue, vm := .none } = T1 at X₁ st1
  have hcat : (Value.ref T.heap.size).category = 1 := rfl
  have hcellA : T1.heap[T.heap.size]? = some (freshCell cX kX) := by rw [← hT1]; exact State.heap_pushCell_size _ _
  have d3' : decode c.code (pc + 3) = .ok (.dup, 1) := by rw [hb]; exact d3
  obtain ⟨U, hsteps, hrun, hend, hW, hsame, ce, hce, hO⟩ := X₁.ctorThrow0 hexec htr (own := own) (cls := cls) (names := names) (ic := ic) hown' hcls hnames h (fun x hx => nomatch hx) hfX hkX hcellA (by rw [hhp, hT]; exact Nat.le_refl _)
    (g := { method := m, pc := pc + 4, locals := ls, stack := .ref T.heap.size :: .ref T.heap.size :: rest, locked := none }) rfl hsize rfl rfl (rest := rest) rfl
    (by rw [hb]; exact d4) (by rw [hb]; exact d7) hout hRframes (by simp only [List.map_cons, List.sum_cons, hcat]; omega) hlocks
  obtain ⟨f1, f2⟩ := vx_frame hsame
  rw [hhp] at f1 f2
  have f0 : U.heap.size = H.size + 1 := by
    have z1 : U.heap.size ≤ s'.heap.size + (0 + 1) := hsame.2.2.1
    rw [hhp] at z1
    have z2 := (Array.getElem?_eq_some_iff.mp hce).1
    rw [hT] at z2
    omega
  have hWs : s.WarmedH U.vm := State.WarmedH.trans hW0 hW
  have hcl : s.vm.findClass cls = some ce.cls := by
    have h9 := hO.cls
    rw [hvm] at h9
    exact h9
  have hall : s.sameButNew ({ U with vm := s.vm } : State) locs mc ms := by
    subst hA
    obtain ⟨e1, e2⟩ := hsame
    rw [State.setFrames_setFrames] at e1
    have h2 : (T.setVm s.vm).sameButNew ({ U with vm := s.vm } : State) [] (0 + 1) (0 + 6) := ⟨e1, e2⟩
    have h3 := X.same.trans h2
    rw [List.append_nil] at h3
    exact h3.mono hc hs
  refine ⟨U, ?_, .threw T.heap.size, hrun, hend, Or.inr ⟨T.heap.size, rfl, cls, ce, locs, hx U hWs.alike f0 (fun q hq => f2 q hq (fun z hz => nomatch hz)), hce, hO.vm, hcl, hWs, hall, hf⟩⟩
  refine st1 _ ?_
  show Steps p.tables e below (T1.setTop { method := m, pc := pc + 3, locals := ls, stack := .ref T.heap.size :: rest, locked := none }) _
  jvm_step X₁.here [X₁.here.top, hexec, d3', Value.category]
  exact hsteps
end XThrow
theorem cY_dflt : ∀ ci, ci < 8 → ∀ k, k < cN ci → defaultValue (cY ci k) = if isR ci k = true then .null else .int 0 := by decide +kernel
theorem wtr {s0 s U : State} (h1 : s0.WarmedH s.vm) (h2 : s.WarmedH U.vm) : s0.WarmedH U.vm := State.WarmedH.trans h1 h2
theorem G0.over {s0 s : State} {args : Array Value} {C : String} (g : G0 s0) (hW : s0.WarmedH s.vm) (hw : Cond.arrayOver (.object C) ∈ lw_tbl) : (Cond.arrayOver (.object C)).before args s = true := by
  obtain ⟨av, h⟩ := g
  exact va_AO.use (va_AO.moved hW.alike (va_AO.of (h _ hw)))
theorem goodCd (M : MI) : goodWord (cdw M) = true := by unfold cdw; split <;> rfl
/-- what a call needs of a method: an instance method, a static one, a constructor -/
def MV (M : MI) (ci n : Nat) : Prop := (ci < 8 ∧ (iY M).cls = cnm ci) ∧ Cond.instanceMethod (iY M) ∈ lw_tbl ∧ Cond.selects (iY M).cls (iY M) (iY M) ∈ lw_tbl ∧ Cond.initialized (iY M).cls ∈ lw_tbl ∧ cdw M ∈ lw_tbl ∧ ((iY M).cls ≠ "java/lang/invoke/MethodHandle" ∧ (iY M).cls ≠ "java/lang/invoke/VarHandle") ∧ (parseMethodDescriptor (iY M).desc).map (fun d => d.parameters.length) = some n
def MS (M : MI) (n : Nat) : Prop := Cond.static (iY M) ∈ lw_tbl ∧ Cond.initialized (iY M).cls ∈ lw_tbl ∧ cdw M ∈ lw_tbl ∧ ((iY M).cls ≠ "java/lang/invoke/MethodHandle" ∧ (iY M).cls ≠ "java/lang/invoke/VarHandle") ∧ (parseMethodDescriptor (iY M).desc).map (fun d => d.parameters.length) = some n
def MC (M : MI) (n : Nat) : Prop := (iY M).name = "<init>" ∧ Cond.instanceMethod (iY M) ∈ lw_tbl ∧ Cond.initialized (iY M).cls ∈ lw_tbl ∧ cdw M ∈ lw_tbl ∧ ((iY M).cls ≠ "java/lang/invoke/MethodHandle" ∧ (iY M).cls ≠ "java/lang/invoke/VarHandle") ∧ (parseMethodDescriptor (iY M).desc).map (fun d => d.parameters.length) = some n
theorem plen {d : String} {n : Nat} (h : (parseMethodDescriptor d).map (fun d => d.parameters.length) = some n) : ∀ sig, parseMethodDescriptor d = some sig → n = sig.parameters.length := fun sig e => by
  rw [e] at h
  exact (Option.some.inj h).symm
theorem C.met {s0 : State} {l : Launch} {M : MI} {av : List Value} {h hE : Mem} {v : Option Value} (k : C s0 l M av h (.inl v) hE) : Met l (iY M) [cdw M] (rmOf M h hE) (PcOf s0 l av h) (QcOf s0 (.inl v) hE) (mN hE - mN h) (mU hE - mU h) (frOf s0) := by
  intro p e ha hc hk s m args below hf happ hP hK
  obtain ⟨n, o, h1, h2, h3, h4⟩ := k.2 p e ha hc hk s m args below hf happ hP hK
  refine ⟨n, o, h1, h2, h3, ?_⟩
  rcases h4 with h4 | ⟨q, -, E, ce, L, ⟨hx, -⟩, -⟩
  · exact h4
  · cases hx
section Rules
variable {s0 : State} {l : Launch} {M : MI} {h0 : Mem} {pc : Nat} {L : List (Option Value)} {st : List Value} {h : Mem} {Q : Out → Mem → Prop}
theorem nw_mono {kd len n : Nat} {hE : Mem} (k : mN (nw h kd len n) ≤ mN hE ∧ mU (nw h kd len n) ≤ mU hE) : mN h ≤ mN hE ∧ mU h ≤ mU hE := by
  rw [mN_nw, mU_nw] at k
  omega
theorem q_new {idx ci : Nat} (hd : decode (iC M) pc = .ok (.new idx, 3)) (hci : ci < 8) (hl : Cond.classLink (iY M).cls idx (cnm ci) ∈ lw_tbl) (kk : RQ s0 l M h0 (pc + 3) L (.ref (mN h) :: st) (nw h (ci + 1) 0 (cN ci)) Q) : RQ s0 l M h0 pc L st h Q := by
  refine lift1 (h' := nw h (ci + 1) 0 (cN ci)) (fun _ _ k9 => ⟨nw_mono k9.1, fun p e s m args below meth c E H locs ls S => ?_⟩) kk
  have k1 := k9.1
  rw [mN_nw, mU_nw] at k1
  have s3 := S.2.2.2.1
  have s4 := S.2.2.2.2
  have hKn := kn E.g E.w hci
  refine W.newcK (C := cnm ci) (n := cN ci) E.1 E.2.1 E.own (E.g.word E.w hl rfl) (E.g.word E.w (cI_ok hci) rfl) (E.g.word E.w (cA_ok hci) rfl) rfl hd (by show _ ≤ mN _ - mN h0; omega) (by show _ ≤ mU _ - mU h0; omega) hKn.2.1 rfl (fun H9 kC hkC e1 z1 o1 => ?_)
  rw [S.1.1]
  have := k9.2 p e s m args below meth c E H9 locs ls ⟨S.1.newx z1 o1 (fun _ => ?_), S.2.1, S.2.2.1, by rw [mN_nw]; omega, by rw [mU_nw]; omega⟩
  · rw [mN_nw, mU_nw, show mN h + 1 - mN h0 = mN h - mN h0 + 1 by omega, show mU h + cN ci - mU h0 = mU h - mU h0 + cN ci by omega] at this
    exact this
  · obtain ⟨cell, q1, q2, q3, q4⟩ := u_born (cY ci) (uw (args := args) E.g E.w hci) (fun _ h => h) hKn hkC e1 (cY_ok hci)
    refine ⟨cell, q1, cOK_obj hci (by simp [mK_nw]) q2 q3 (fun j hj => ?_)⟩
    rw [q4 j hj]
    show some (defaultValue (cY ci j)) = _
    rw [cY_dflt ci hci j hj]
    unfold fV
    simp only [mR_nw, mI_nw, if_true]
    rfl
theorem q_newarray {at9 : ArrayType} {ty : FieldType} {kd : Nat} {n : Int32} (hd : decode (iC M) pc = .ok (.newarray at9, 2)) (hty : newarray.typeOf at9 = ty) (hkd : (kd = 11 ∧ ty = .int) ∨ (kd = 12 ∧ ty = .byte) ∨ (kd = 13 ∧ ty = .long)) (hw : Cond.arrayClass ty ∈ lw_tbl) (hn : ¬ n < 0) (hb : n.toNatClampNeg ≤ 10000000) (kk : RQ s0 l M h0 (pc + 2) L (.ref (mN h) :: st) (nw h kd n.toNatClampNeg n.toNatClampNeg) Q) : RQ s0 l M h0 pc L (.int n :: st) h Q := by
  refine lift1 (h' := nw h kd n.toNatClampNeg n.toNatClampNeg) (fun _ _ k9 => ⟨nw_mono k9.1, fun p e s m args below meth c E H locs ls S => ?_⟩) kk
  have k1 := k9.1
  rw [mN_nw, mU_nw] at k1
  have s3 := S.2.2.2.1
  have s4 := S.2.2.2.2
  subst hty
  refine W.newaK (N := n.toNatClampNeg) E.1 E.2.1 (E.g.word E.w hw rfl) rfl hd rfl hn rfl ?_ (by show _ ≤ mN _ - mN h0; omega) (by show _ ≤ mU _ - mU h0; omega) rfl (fun H9 cA e1 z1 o1 hA => ?_)
  · rcases hkd with ⟨-, h9⟩ | ⟨-, h9⟩ | ⟨-, h9⟩ <;> rw [h9] <;> simp only [componentBytes] <;> omega
  · rw [S.1.1]
    have := k9.2 p e s m args below meth c E H9 locs ls ⟨S.1.newx z1 o1 (fun _ => ?_), S.2.1, S.2.2.1, by rw [mN_nw]; omega, by rw [mU_nw]; omega⟩
    · rw [mN_nw, mU_nw, show mN h + 1 - mN h0 = mN h - mN h0 + 1 by omega, show mU h + n.toNatClampNeg - mU h0 = mU h - mU h0 + n.toNatClampNeg by omega] at this
      exact this
    · refine ⟨_, e1, ?_⟩
      have hK : mK (nw h kd n.toNatClampNeg n.toNatClampNeg) (mN h) = kd := by simp [mK_nw]
      have hL : mL (nw h kd n.toNatClampNeg n.toNatClampNeg) (mN h) = n.toNatClampNeg := by simp [mL_nw]
      have hi : ∀ (f : Nat → Value), (∀ j, f j = defaultValue (newarray.typeOf at9)) → aOK s0 (newarray.typeOf at9) n.toNatClampNeg f (arrV cA n.toNatClampNeg (fun _ => defaultValue (newarray.typeOf at9))) := fun f hf =>
        ⟨State.isArrayOf_alike E.w.alike.symm (hA _ _), (fun h9 => by cases h9), arrV_size _ _ _, by omega, fun j hj => by rw [arrV_read _ _ hj, hf j]⟩
      unfold cOK
      rw [hK, hL]
      rcases hkd with ⟨rfl, h9⟩ | ⟨rfl, h9⟩ | ⟨rfl, h9⟩
      · rw [if_pos (Or.inl rfl), ← h9]
        exact hi _ (fun j => by rw [h9, mI_nw, if_pos rfl]; rfl)
      · rw [if_neg (by decide), if_pos rfl, ← h9]
        exact hi _ (fun j => by rw [h9, mI_nw, if_pos rfl]; rfl)
      · rw [if_neg (by decide), if_neg (by decide), if_pos rfl, ← h9]
        exact hi _ (fun j => by rw [h9, mJ_nw, if_pos rfl]; rfl)
theorem q_anewarray {idx ci : Nat} {n : Int32} (hd : decode (iC M) pc = .ok (.anewarray idx, 3)) (hci : ci = 1 ∨ ci = 2) (hl : Cond.classLink (iY M).cls idx (cnm ci) ∈ lw_tbl) (hw : Cond.arrayOver (.object (cnm ci)) ∈ lw_tbl) (hn : ¬ n < 0) (hb : n.toNatClampNeg ≤ 10000000) (kk : RQ s0 l M h0 (pc + 3) L (.ref (mN h) :: st) (nw h (ci + 13) n.toNatClampNeg n.toNatClampNeg) Q) : RQ s0 l M h0 pc L (.int n :: st) h Q := by
  refine lift1 (h' := nw h (ci + 13) n.toNatClampNeg n.toNatClampNeg) (fun _ _ k9 => ⟨nw_mono k9.1, fun p e s m args below meth c E H locs ls S => ?_⟩) kk
  have k1 := k9.1
  rw [mN_nw, mU_nw] at k1
  have s3 := S.2.2.2.1
  have s4 := S.2.2.2.2
  refine W.anew (C := cnm ci) E.1 E.2.1 E.own (E.g.word E.w hl rfl) (E.g.over E.w hw) rfl hd rfl hn (by omega) (by show _ ≤ mN _ - mN h0; omega) (by show _ ≤ mU _ - mU h0; omega) (fun cA kA comp f1 f2 f3 f4 => ?_)
  rw [S.1.1]
  have hal := E.w.alike.symm
  obtain ⟨kA', hkA', heA⟩ := hal.2.2 _ _ f2
  have f3' : kA'.kind = .array comp (.object (cnm ci)) := by rw [heA]; exact f3
  have := k9.2 p e s m args below meth c E _ locs ls ⟨S.1.newx (H' := H.push { cls := cA, slots := Array.replicate n.toNatClampNeg .null, vm := .none }) (by simp) (fun q hq => by rw [Array.getElem?_push, if_neg (Nat.ne_of_lt hq)]) (fun _ => ?_), S.2.1, S.2.2.1, by rw [mN_nw]; omega, by rw [mU_nw]; omega⟩
  · rw [mN_nw, mU_nw, show mN h + 1 - mN h0 = mN h - mN h0 + 1 by omega, show mU h + n.toNatClampNeg - mU h0 = mU h - mU h0 + n.toNatClampNeg by omega] at this
    exact this
  · refine ⟨{ cls := cA, slots := Array.replicate n.toNatClampNeg .null, vm := .none }, by simp, ?_⟩
    have hK : mK (nw h (ci + 13) n.toNatClampNeg n.toNatClampNeg) (mN h) = ci + 13 := by simp [mK_nw]
    have hL : mL (nw h (ci + 13) n.toNatClampNeg n.toNatClampNeg) (mN h) = n.toNatClampNeg := by simp [mL_nw]
    have hr : rOK s0 (cnm ci) n.toNatClampNeg (fun j => va_rf (mR (nw h (ci + 13) n.toNatClampNeg n.toNatClampNeg) (mN h) j)) { cls := cA, slots := Array.replicate n.toNatClampNeg .null, vm := .none } := by
      refine ⟨⟨⟨(by intro k h9; cases h9), kA', hkA', comp, f3'⟩, (fun h9 => by cases h9), by simp, by omega, fun j hj => ?_⟩, kA', comp, hkA', f3', by rw [hal.findClass]; exact f4⟩
      simp [mR_nw, va_rf, hj]
    unfold cOK
    rw [hK, hL]
    rcases hci with rfl | rfl
    · rw [if_neg (by decide), if_neg (by decide), if_neg (by decide), if_pos (by decide)]
      exact hr
    · rw [if_neg (by decide), if_neg (by decide), if_neg (by decide), if_neg (by decide), if_pos (by decide)]
      exact hr
theorem q_objinit {idx a : Nat} (hd : decode (iC M) pc = .ok (.invokespecial idx, 3)) (hl : Cond.methodLink (iY M).cls idx Lib.objectInit ∈ lw_tbl) (h1 : Cond.instanceMethod Lib.objectInit ∈ lw_tbl) (h2 : Cond.code Lib.objectInit ⟨#[0xb1]⟩ 1 none ∈ lw_tbl) (hs : (st.map fun v => v.category).sum ≤ 8) (hr : 1 ≤ iF M ∧ 20 ≤ iW M) (kk : RQ s0 l M h0 (pc + 3) L st h Q) : RQ s0 l M h0 pc L (.ref a :: st) h Q := by
  refine lift1 (fun _ _ k9 => ⟨k9.1, fun p e s m args below meth c E H locs ls S => ?_⟩) kk
  refine W.objInit E.1 E.2.1 E.own (E.g.word E.w hl rfl) (E.g.word E.w h1 rfl) (E.g.word E.w h2 rfl) rfl (by rw [E.2.2.1]; exact S.2.2.1.1) rfl hd hr.1 ?_ (k9.2 p e s m args below meth c E H locs ls S)
  show 2 * 0 + _ + 12 ≤ iW M
  omega
theorem q_min {idx : Nat} {x y : Int32} (hd : decode (iC M) pc = .ok (.invokestatic idx, 3)) (hl : Cond.methodLink (iY M).cls idx Lib.Math.min.name ∈ lw_tbl) (h1 : Cond.static Lib.Math.min.name ∈ lw_tbl) (h2 : Cond.initialized "java/lang/Math" ∈ lw_tbl) (h3 : Cond.code Lib.Math.min.name Lib.Math.min.code 2 (some .int) ∈ lw_tbl) (hs : (st.map fun v => v.category).sum ≤ 8) (hr : 1 ≤ iF M ∧ 21 ≤ iW M) (kk : RQ s0 l M h0 (pc + 3) L (.int (if y < x then y else x) :: st) h Q) : RQ s0 l M h0 pc L (.int y :: .int x :: st) h Q := by
  refine lift1 (fun _ _ k9 => ⟨k9.1, fun p e s m args below meth c E H locs ls S => ?_⟩) kk
  have k1 := k9.1
  have s3 := S.2.2.2.1
  have s4 := S.2.2.2.2
  exact va_mmin E.1 E.2.1 (by rw [E.2.2.1]; exact S.2.2.1.1.symm) E.own (E.g.word E.w hl rfl) (E.g.word E.w h1 rfl) (E.g.word E.w h2 rfl) (E.g.word E.w h3 rfl) hr.1 (by show _ ≤ iW M; omega) (by show _ ≤ mN _ - mN h0; omega) (by show _ ≤ mU _ - mU h0; omega) hd (k9.2 p e s m args below meth c E H locs ls S)
theorem q_throw {ik ic : Nat} {cls : String} (hd0 : decode (iC M) pc = .ok (.new ik, 3)) (hd3 : decode (iC M) (pc + 3) = .ok (.dup, 1)) (hd4 : decode (iC M) (pc + 4) = .ok (.invokespecial ic, 3)) (hd7 : decode (iC M) (pc + 7) = .ok (.athrow, 1)) (hcls : Bundle.fit cls = true)
    (hk : Cond.classLink (iY M).cls ik cls ∈ lw_tbl) (hi : Cond.initialized cls ∈ lw_tbl) (hat : ∀ w ∈ vx_at0 (iY M).cls ic cls ["java/lang/RuntimeException", "java/lang/Exception"], w ∈ lw_tbl ∧ w.onTables = true ∧ (goodWord w = true ∨ w.keepsFace = true)) (hH : iH M = []) (hs : (st.map fun v => v.category).sum ≤ 8) (hr : 6 ≤ iF M ∧ 89 ≤ iW M) (hQ : Q (.inr cls) (nw h 0 0 6)) : RQ s0 l M h0 pc L st h Q := by
  refine ⟨.inr cls, nw h 0 0 6, ⟨⟨by rw [mN_nw]; omega, by rw [mU_nw]; omega⟩, fun p e s m args below meth c E H locs ls S => ?_⟩, hQ⟩
  have s3 := S.2.2.2.1
  have s4 := S.2.2.2.2
  have hfz : ∀ a : Nat, a < s0.heap.size → ¬ frOf s0 a → s.heap[a]? = s0.heap[a]? := fun a ha _ => E.froz a ha
  have hU := vx_Zq.moved E.w.alike (E.cx.2.2.1.kept hfz)
  have hN := vx_Zq.moved E.w.alike (E.cx.2.2.2.1.kept hfz)
  refine x_throw0 (names := ["java/lang/RuntimeException", "java/lang/Exception"]) E.1 E.2.1 E.cx.2.1 E.own hcls (by decide) (E.g.word E.w hk rfl) (E.g.word E.w hi rfl) (fun w hw => ?_) (fun w hw => ?_) hU hN (S.vaS E) (by rw [E.2.2.1]; exact S.2.2.1.1) hd0 hd3 hd4 hd7 ?_ (by show 2 + 3 < iF M; omega) (by show _ + (13 * (2 + 1) + 42) ≤ iW M; omega) ?_ ?_ E.2.2.2.2.1 (fun t _ z1 z2 => ⟨rfl, S.1.newx z1 z2 (fun h9 => absurd rfl h9)⟩) S.2.1 ?_ ?_
  · obtain ⟨w1, w2, w3⟩ := hat w hw
    rcases w3 with w3 | w3
    · exact E.g.word E.w w1 w3
    · exact E.g.face E.w w1 w3 w2
  · rcases List.mem_cons.mp hw with rfl | hw
    · rfl
    · rcases List.mem_cons.mp hw with rfl | hw
      · rfl
      · unfold vx_ot
        rw [(hat w hw).2.1]
        rfl
  · intro x hx
    rw [E.2.2.2.2.2.2.2.1, hH] at hx
    cases hx
  · show _ ≤ mN (nw h 0 0 6) - mN h0
    rw [mN_nw]; omega
  · show _ ≤ mU (nw h 0 0 6) - mU h0
    rw [mU_nw]; omega
  · rw [mN_nw]; omega
  · rw [mU_nw]; omega
end Rules
