/-! ===== locals as a list ===== -/
def lvs (ls : Array Slot) (n : Nat) (L : List (Option Value)) : Prop := ls.size = n ∧ lv_wf ls ∧ L.length = n ∧ ∀ (i : Nat) (v : Value), L[i]? = some (some v) → ls[i]? = some (Slot.val v) ∧ v.category = 1
def asc (L : List (Option Value)) : List (Nat × Value) := (List.range L.length).filterMap (fun i => match L[i]? with
  | some (some v) => some (i, v)
  | _ => none)
theorem mem_asc {L : List (Option Value)} {i : Nat} {v : Value} : (i, v) ∈ asc L ↔ L[i]? = some (some v) := by
  unfold asc
  rw [List.mem_filterMap]
  constructor
  · rintro ⟨j, -, hj⟩
    split at hj
    · rename_i w hw
      cases hj
      exact hw
    · cases hj
  · intro h
    have hi : i < L.length := (List.getElem?_eq_some_iff.mp h).1
    exact ⟨i, List.mem_range.mpr hi, by rw [h]⟩
theorem lvs.has {ls : Array Slot} {n : Nat} {L : List (Option Value)} (h : lvs ls n L) : lv_has ls n (asc L) := ⟨h.1, h.2.1, fun q hq => (h.2.2.2 q.1 q.2 (mem_asc.mp hq)).1⟩
theorem lvs.st {ls ls' : Array Slot} {n i : Nat} {L : List (Option Value)} {v : Value} (h : lvs ls n L) (hc : v.category = 1) (h' : lv_has ls' n ((i, v) :: (asc L).filter (fun q => !(q.1 == i) && !(q.1 + 1 == i && q.2.category == 2)))) : lvs ls' n (L.set i (some v)) := by
  obtain ⟨a1, a2, a3⟩ := h'
  refine ⟨a1, a2, by rw [List.length_set]; exact h.2.2.1, fun j w hj => ?_⟩
  rw [List.getElem?_set] at hj
  by_cases e : i = j
  · subst e
    rw [if_pos rfl] at hj
    split at hj
    · cases hj
      exact ⟨a3 _ List.mem_cons_self, hc⟩
    · cases hj
  · rw [if_neg e] at hj
    have hw := (h.2.2.2 j w hj).2
    exact ⟨a3 (j, w) (List.mem_cons_of_mem _ (List.mem_filter.mpr ⟨mem_asc.mpr hj, by simp [Ne.symm e, hw]⟩)), hw⟩
theorem lvs.drop {ls : Array Slot} {n i : Nat} {L : List (Option Value)} {x : Option Value} (h : lvs ls n (L.set i x)) : lvs ls n (L.set i none) := by
  obtain ⟨a1, a2, a3, a4⟩ := h
  refine ⟨a1, a2, by rw [List.length_set] at a3 ⊢; exact a3, fun j w hj => ?_⟩
  rw [List.getElem?_set] at hj
  by_cases e : i = j
  · subst e
    rw [if_pos rfl] at hj
    split at hj <;> cases hj
  · rw [if_neg e] at hj
    exact a4 j w (by rw [List.getElem?_set, if_neg e]; exact hj)
theorem lvs.at {ls : Array Slot} {n i : Nat} {L : List (Option Value)} {v : Value} (h : lvs ls n L) (hv : L[i]? = some (some v)) : ls[i]? = some (.val v) := (h.2.2.2 i v hv).1
theorem lvs.lt {ls : Array Slot} {n i : Nat} {L : List (Option Value)} (h : lvs ls n L) (hv : i < L.length) : i < n := by rw [← h.2.2.1]; exact hv
def ent (av : List Value) (n : Nat) : List (Option Value) := av.map some ++ List.replicate (n - av.length) none
theorem lv_args_1 : ∀ (av : List Value) (k : Nat), (∀ v ∈ av, v.category = 1) → ∀ i v, av[i]? = some v → (k + i, v) ∈ lv_args k av
  | [], _, _, i, v, h => by simp at h
  | w :: t, k, hc, i, v, h => by
    have hw : w.category = 1 := hc w List.mem_cons_self
    unfold lv_args
    cases i with
    | zero =>
      simp at h
      subst h
      simp
    | succ j =>
      have h2 := lv_args_1 t (k + 1) (fun x hx => hc x (List.mem_cons_of_mem _ hx)) j v (by simpa using h)
      have e : k + (j + 1) = k + 1 + j := by omega
      rw [e]
      simp [hw]
      exact Or.inr h2
theorem lg_sl_1 : ∀ (av : List Value), (∀ v ∈ av, v.category = 1) → (lg_sl av).length = av.length
  | [], _ => rfl
  | w :: t, hc => by
    have hw : w.category = 1 := hc w List.mem_cons_self
    have h2 := lg_sl_1 t (fun x hx => hc x (List.mem_cons_of_mem _ hx))
    unfold lg_sl at h2 ⊢
    simp [hw]
    simpa using h2
theorem lvs.ent {av : List Value} {n : Nat} (hc : ∀ v ∈ av, v.category = 1) (hn : av.length ≤ n) : lvs ((lg_sl av ++ List.replicate (n - (lg_sl av).length) Slot.unset).toArray) n (ent av n) := by
  have h := lv_entry av (n := n) (by rw [lg_sl_1 av hc]; exact hn)
  refine ⟨h.1, h.2.1, by simp [Jvm.Pilot.@@N@@.ent]; omega, fun i v hv => ?_⟩
  unfold Jvm.Pilot.@@N@@.ent at hv
  rw [List.getElem?_append] at hv
  split at hv
  · rw [List.getElem?_map] at hv
    cases hi : av[i]? with
    | none => rw [hi] at hv; simp at hv
    | some w =>
      rw [hi] at hv
      simp at hv
      subst hv
      have := lv_args_1 av 0 hc i w hi
      rw [Nat.zero_add] at this
      exact ⟨h.2.2 _ this, hc w (List.mem_of_getElem? hi)⟩
  · rw [List.getElem?_replicate] at hv
    split at hv <;> simp at hv
/-! ===== the start of the law, as every method sees it ===== -/
def frOf (s0 : State) : Addr → Prop := fun q => s0.heap.size ≤ q
def G0 (s0 : State) : Prop := ∃ av, ∀ w ∈ lw_tbl, w.before av s0 = true
theorem G0.word {s0 s : State} {args : Array Value} (g : G0 s0) (hW : s0.WarmedH s.vm) {w : Cond} (hw : w ∈ lw_tbl) (hg : goodWord w = true) : w.before args s = true := by
  obtain ⟨av, h⟩ := g
  exact word_at hW (good_of_word hg) (h w hw)
def sC (i : Nat) : String := match i with
  | 0 => cnm 0
  | 1 => cnm 0
  | _ => cnm 7
def sNm (i : Nat) : String := match i with
  | 0 => "ZIGZAG"
  | 1 => "COSINES"
  | _ => "WAVES"
def sA (s0 : State) (i : Nat) : Nat := match (Term.static (sC i) (sNm i) "[I").eval #[] s0 none [] s0 with
  | some (.ref a) => a
  | _ => 0
def CX (s0 : State) (l : Launch) : Prop := G0 s0 ∧ l.stackTraces = false ∧ vx_Zq Bundle.tN "UNASSIGNED_STACK" Bundle.steD (frOf s0) s0 s0.heap ∧ vx_Zq Bundle.tN "SUPPRESSED_SENTINEL" Bundle.listD (frOf s0) s0 s0.heap ∧ ∀ i, i < 3 → va_Z (sC i) (sNm i) "[I" (.ref (sA s0 i)) (frOf s0) s0 s0.heap
/-! ===== the judgement ===== -/
def EN (s0 : State) (l : Launch) (M : MI) (h0 : Mem) (p : Program) (s : State) (m : MethodId) (meth : Method) (c : Code) : Prop :=
  p.tables.exec = Jvm.exec ∧ c.code = iC M ∧ c.maxLocals = iL M ∧ s.vm.findClass (iY M).cls = some m.cls ∧ meth.locks = false ∧ meth.sig.returnType = iR M ∧ meth.name = (iY M).name ∧ c.exceptionTable.toList = tableOf (iH M) ∧ s0.WarmedH s.vm ∧ (∀ q, q < s0.heap.size → s.heap[q]? = s0.heap[q]?) ∧ s.heap.size = mN h0 ∧ s0.heap.size ≤ s.heap.size ∧ CX s0 l
def ST (s0 : State) (M : MI) (h0 h : Mem) (L : List (Option Value)) (H : Heap) (locs : List Loc) (ls : Array Slot) : Prop := Rep s0 h H ∧ (∀ q ∈ locs, frOf s0 q.base) ∧ lvs ls (iL M) L ∧ mN h0 ≤ mN h ∧ mU h0 ≤ mU h
def QcOf (s0 : State) (o : Out) (hE : Mem) : Array Value → State → Outcome → State → Prop := fun _ _ oc t => ∃ v, o = .inl v ∧ oc = .returned v ∧ Rep s0 hE t.heap
def XcOf (s0 : State) (o : Out) (hE : Mem) : String → State → State → Prop := fun E _ t => o = .inr E ∧ Rep s0 hE t.heap
def rmOf (M : MI) (h0 hE : Mem) : Room := { frames := iF M, cells := mN hE - mN h0, slots := mU hE - mU h0, locals := iW M }
/-- from this point of method M, entered with h0, it ends with o and the memory hE -/
def R (s0 : State) (l : Launch) (M : MI) (h0 : Mem) (o : Out) (hE : Mem) (pc : Nat) (L : List (Option Value)) (st : List Value) (h : Mem) : Prop :=
  (mN h ≤ mN hE ∧ mU h ≤ mU hE) ∧ ∀ (p : Program) (e : Env) (s : State) (m : MethodId) (args : Array Value) (below : List Frame) (meth : Method) (c : Code), EN s0 l M h0 p s m meth c → ∀ (H : Heap) (locs : List Loc) (ls : Array Slot), ST s0 M h0 h L H locs ls →
    W p l e (rmOf M h0 hE) s m args below meth c H locs (mN h - mN h0) (mU h - mU h0) (vx_MQ below (QcOf s0 o hE) (XcOf s0 o hE) args s (mN hE - mN h0) (mU hE - mU h0) (frOf s0)) (F0 m pc ls st)
def RQ (s0 : State) (l : Launch) (M : MI) (h0 : Mem) (pc : Nat) (L : List (Option Value)) (st : List Value) (h : Mem) (Q : Out → Mem → Prop) : Prop := ∃ o hE, R s0 l M h0 o hE pc L st h ∧ Q o hE
/-- something of class E is thrown over the frame -/
def RX (s0 : State) (l : Launch) (M : MI) (h0 : Mem) (o : Out) (hE : Mem) (pc : Nat) (L : List (Option Value)) (E : String) (h : Mem) : Prop :=
  (mN h ≤ mN hE ∧ mU h ≤ mU hE) ∧ ∀ (p : Program) (e : Env) (s : State) (m : MethodId) (args : Array Value) (below : List Frame) (meth : Method) (c : Code), EN s0 l M h0 p s m meth c → ∀ (H : Heap) (locs : List Loc) (ls : Array Slot) (st : List Value) (q : Addr) (ce : Cell), ST s0 M h0 h L H locs ls → H[q]? = some ce → ce.vm = .none → s.vm.findClass E = some ce.cls →
    vx_W p l e (rmOf M h0 hE) s m args below meth c H locs (mN h - mN h0) (mU h - mU h0) (vx_MQ below (QcOf s0 o hE) (XcOf s0 o hE) args s (mN hE - mN h0) (mU hE - mU h0) (frOf s0)) (F0 m pc ls st) q
def RQX (s0 : State) (l : Launch) (M : MI) (h0 : Mem) (pc : Nat) (L : List (Option Value)) (E : String) (h : Mem) (Q : Out → Mem → Prop) : Prop := ∃ o hE, RX s0 l M h0 o hE pc L E h ∧ Q o hE
def PcOf (s0 : State) (l : Launch) (av : List Value) (h : Mem) : Array Value → State → Prop := fun v U => v = av.toArray ∧ s0.WarmedH U.vm ∧ Rep s0 h U.heap ∧ CX s0 l
def cdw (M : MI) : Cond := if iH M = [] then .code (iY M) (iC M) (iL M) (iR M) else .codeWith (iY M) (iC M) (iL M) (iR M) (iH M)
/-- method M, called with av in the memory h, ends with o and hE -/
def C (s0 : State) (l : Launch) (M : MI) (av : List Value) (h : Mem) (o : Out) (hE : Mem) : Prop :=
  (mN h ≤ mN hE ∧ mU h ≤ mU hE) ∧ vx_Met l (iY M) [cdw M] (rmOf M h hE) (PcOf s0 l av h) (QcOf s0 o hE) (XcOf s0 o hE) (mN hE - mN h) (mU hE - mU h) (frOf s0)
def CQ (s0 : State) (l : Launch) (M : MI) (av : List Value) (h : Mem) (Q : Out → Mem → Prop) : Prop := ∃ o hE, C s0 l M av h o hE ∧ Q o hE
theorem CQ.mono {s0 : State} {l : Launch} {M : MI} {av : List Value} {h : Mem} {Q Q' : Out → Mem → Prop} (k : CQ s0 l M av h Q) (f : ∀ o hE, Q o hE → Q' o hE) : CQ s0 l M av h Q' := by
  obtain ⟨o, hE, a, b⟩ := k
  exact ⟨o, hE, a, f o hE b⟩
theorem RQ.mono {s0 : State} {l : Launch} {M : MI} {h0 : Mem} {pc : Nat} {L : List (Option Value)} {st : List Value} {h : Mem} {Q Q' : Out → Mem → Prop} (k : RQ s0 l M h0 pc L st h Q) (f : ∀ o hE, Q o hE → Q' o hE) : RQ s0 l M h0 pc L st h Q' := by
  obtain ⟨o, hE, a, b⟩ := k
  exact ⟨o, hE, a, f o hE b⟩
theorem PcOf.blind {s0 : State} {l : Launch} {av : List Value} {h : Mem} : FrameBlind (PcOf s0 l av h) := fun _ _ _ _ q => q
section Intro
variable {s0 : State} {l : Launch} {M : MI} {av : List Value} {h : Mem} {Q : Out → Mem → Prop}
theorem en_of {o : Out} {hE : Mem} {ws : List Cond} {p : Program} {e : Env} {s : State} {m : MethodId} {args : Array Value} {below : List Frame} {meth : Method} {c : Code} {s₁ : State} (B : BodyLoose p l (iY M) (headSpec ws (rmOf M h hE)) (iC M) (iL M) (iR M) e s m args below meth c s₁) (hml : c.maxLocals = iL M) (ht : c.exceptionTable.toList = tableOf (iH M)) (hP : PcOf s0 l av h args s) : EN s0 l M h p s m meth c := by
  obtain ⟨-, hW, hR, hC⟩ := hP
  exact ⟨B.exec, B.bytes, hml, findClass_of_methodNamed B.named, B.notSynchronized, B.returns, (name_of_methodNamed B.named B.method).1, ht, hW, hR.2.2.1, hR.1, by rw [hR.1]; exact hR.2.1, hC⟩
theorem c_intro (hy : plainName (iY M).cls = true) (hH : iH M = []) (hc : ∀ v ∈ av, v.category = 1) (hn : av.length ≤ iL M) (k : RQ s0 l M h 0 (ent av (iL M)) [] h Q) : CQ s0 l M av h Q := by
  obtain ⟨o, hE, k, q⟩ := k
  refine ⟨o, hE, ⟨k.1, ?_⟩, q⟩
  refine vx_ofW (cc := iC M) (maxL := iL M) (ret := iR M) hy (by unfold cdw; rw [if_pos hH]) ?_
  intro p e s m args below meth c s₁ B hml ht hP
  have he := en_of (o := o) B hml (by rw [hH]; exact List.eq_nil_iff_forall_not_mem.mpr fun x hx => ht x hx) hP
  obtain ⟨rfl, hW, hR, hC⟩ := hP
  rw [lg_entry_eq]
  have := k.2 p e s m av.toArray below meth c he s.heap [] _ ⟨hR, (fun _ hq => absurd hq List.not_mem_nil), lvs.ent hc hn, Nat.le_refl _, Nat.le_refl _⟩
  rw [Nat.sub_self, Nat.sub_self] at this
  exact this
theorem c_introH (hy : plainName (iY M).cls = true) (hH : iH M ≠ []) (hc : ∀ v ∈ av, v.category = 1) (hn : av.length ≤ iL M) (k : RQ s0 l M h 0 (ent av (iL M)) [] h Q) : CQ s0 l M av h Q := by
  obtain ⟨o, hE, k, q⟩ := k
  refine ⟨o, hE, ⟨k.1, ?_⟩, q⟩
  refine vx_ofWH (cc := iC M) (maxL := iL M) (ret := iR M) (hh := iH M) hy (by unfold cdw; rw [if_neg hH]) ?_
  intro p e s m args below meth c s₁ B hml hP
  have hw : (Cond.codeWith (iY M) (iC M) (iL M) (iR M) (iH M)).before args s = true := atoms_spec (ws := [cdw M]) B.pre _ (by unfold cdw; rw [if_neg hH]; exact List.mem_cons_self)
  have he := en_of (o := o) B hml (vx_table (x := iY M) B hw) hP
  obtain ⟨rfl, hW, hR, hC⟩ := hP
  rw [lg_entry_eq]
  have := k.2 p e s m av.toArray below meth c he s.heap [] _ ⟨hR, (fun _ hq => absurd hq List.not_mem_nil), lvs.ent hc hn, Nat.le_refl _, Nat.le_refl _⟩
  rw [Nat.sub_self, Nat.sub_self] at this
  exact this
end Intro
