def R_law : String := "ReelReaderLaw"
def lw_P (b : Addr) (xs : List Int32) (args : Array Value) (s : State) : Prop := args = #[.ref b] ∧ s.IntsAt b xs ∧ xs.length ≤ 3072 ∧ (Jvm.Cond.and given_1 narrow_1).before args s = true
def lw_Q (_ : Array Value) (s : State) (o : Outcome) (t : State) : Prop := o = .returned (some (.int 1)) ∧ Framed s o t [] 601024 7293034
def lw_Z (below : List Frame) (a : Array Value) (s : State) : State → Prop := fun t => ∃ o, t.status = .running ∧ Ended t below o ∧ lw_Q a s o t
/-- what holds at the law's entry: the machine, the code, the tables' words (any of lw_tbl by 'hts w (by decide +kernel)'), the script of L ints xs at the cell b, what the Statement gives of the start (any of its parts by flat_of_before) -/
def lw_At (p : Program) (s : State) (m : MethodId) (meth : Method) (c : Code) (b L : Nat) (xs : Nat → Int32) : Prop :=
  p.tables.exec = Jvm.exec ∧ c.code = code ∧ meth.sig.returnType = ret ∧ c.maxLocals = 7 ∧ s.vm.findClass R_law = some m.cls ∧ (∀ w ∈ lw_tbl, w.before #[Value.ref b] s = true) ∧ va_X b L xs s s.heap ∧ b < s.heap.size ∧ meth.locks = false ∧ (Jvm.Cond.and given_1 narrow_1).before #[Value.ref b] s = true

/-! ===== the start: the memory as the law finds it ===== -/
def hL0 (s : State) (a : Nat) : Nat := match s.heap[a]? with
  | some c => c.slots.size
  | none => 0
def hI0 (s : State) (a j : Nat) : Int32 := match s.heap[a]? with
  | some c => (match c.slots[j]? with
    | some (.int v) => v
    | _ => 0)
  | none => 0
def h00 (s : State) (b : Nat) : Mem := ((fun a => if a = sA s 0 ∨ a = sA s 1 ∨ a = sA s 2 ∨ a = b then 21 else 0), hL0 s, hI0 s, (fun _ _ => none), (fun _ _ => 0), s.heap.size, 0)
theorem hL0_of {s : State} {a n : Nat} {f : Nat → Int32} {cell : Cell} (hc : s.heap[a]? = some cell) (x : aOK s .int n (fun j => .int (f j)) cell) : hL0 s a = n := by
  unfold hL0
  rw [hc]
  exact x.2.2.1
theorem hI0_of {s : State} {a n : Nat} {f : Nat → Int32} {cell : Cell} (hc : s.heap[a]? = some cell) (x : aOK s .int n (fun j => .int (f j)) cell) (j : Nat) (hj : j < n) : hI0 s a j = f j := by
  unfold hI0
  rw [hc]
  show (match cell.slots[j]? with
    | some (.int v) => v
    | _ => 0) = f j
  rw [x.2.2.2.2 j hj]
theorem aOK.h0 {s : State} {a n : Nat} {f : Nat → Int32} {cell : Cell} (hc : s.heap[a]? = some cell) (x : aOK s .int n (fun j => .int (f j)) cell) : aOK s .int (hL0 s a) (fun j => .int (hI0 s a j)) cell := by
  rw [hL0_of hc x]
  exact ⟨x.1, x.2.1, x.2.2.1, x.2.2.2.1, fun j hj => (x.2.2.2.2 j hj).trans (by show some (Value.int (f j)) = some (Value.int (hI0 s a j)); rw [hI0_of hc x j hj])⟩
theorem room_le {s : State} {pl : Platform} {r r' : Room} (hf : r.frames ≤ r'.frames) (hl : r.locals ≤ r'.locals) (hc : r.cells ≤ r'.cells) (hs : r.slots ≤ r'.slots) (h : s.hasRoom pl r' = true) : s.hasRoom pl r = true := by
  simp only [State.hasRoom, Bool.and_eq_true, decide_eq_true_eq] at h ⊢
  obtain ⟨⟨⟨⟨y, a, b, c, d, e⟩, f⟩, g⟩, i⟩ := h
  exact ⟨⟨⟨⟨by omega, by omega, by omega, by omega, by omega, e⟩, by omega⟩, by omega⟩, i⟩
/-- a static array of the start -/
theorem st_arr {args : Array Value} {s : State} {C n : String} {N : Nat} {f : Nat → Int32} (hN : N < 2 ^ 31) (harr : (Cond.arrayOf (.static C n "[I") .int).before args s = true) (hlen : (Cond.eq (.length (.static C n "[I")) (.int (Int32.ofNat N))).before args s = true) (hel : ∀ j : Nat, j < N → (Cond.eq (.elem (.static C n "[I") (.int (Int32.ofNat j))) (.int (f j))).before args s = true) : ∃ t cell, (Term.static C n "[I").eval args s none [] s = some (.ref t) ∧ s.heap[t]? = some cell ∧ aOK s .int N (fun j => .int (f j)) cell := by
  have hl := va_eqt hlen
  obtain ⟨t, cell, ht, hat, hv⟩ := Term.length_spec hl
  obtain ⟨hcell, hkn, -, -⟩ := State.arrayAt?_spec hat
  obtain ⟨hof, -⟩ := Cond.arrayOf_spec harr ht hcell
  have hsz : cell.slots.size < 2 ^ 31 := by
    have h1 : (Term.length (.static C n "[I")).eval args s none [] s = some (.int (Int32.ofNat N)) := hl
    rw [show (Term.length (.static C n "[I")).eval args s none [] s = ((Term.static C n "[I").eval args s none [] s).bind _ from rfl] at h1
    by_cases hlt : cell.slots.size < 2147483648
    · exact hlt
    · simp [ht, hat, hlt] at h1
  have hN2 : cell.slots.size = N := by
    have h1 : cell.slots.size.toInt32 = Int32.ofNat N := (Value.int.inj hv).symm
    have h2 : (Int32.ofNat cell.slots.size).toInt = cell.slots.size := Int32.toInt_ofNat_small hsz
    have h3 : (Int32.ofNat N).toInt = N := Int32.toInt_ofNat_small hN
    have h4 : Int32.ofNat cell.slots.size = Int32.ofNat N := h1
    rw [h4, h3] at h2
    omega
  refine ⟨t, cell, ht, hcell, hof, hkn, hN2, hN, fun j hj => ?_⟩
  obtain ⟨a, i, cell2, h1, h2, h3, h4, h5⟩ := Term.elem_spec (va_eqt (hel j hj))
  cases ht.symm.trans h1
  cases hat.symm.trans h3
  have hi : i = Int32.ofNat j := by
    have e : (Term.int (Int32.ofNat j)).eval args s none [] s = some (.int (Int32.ofNat j)) := rfl
    cases h2.symm.trans e
    rfl
  have hc : i.toNatClampNeg = j := by rw [hi]; exact Int32.toNatClampNeg_ofNat_of_lt (Nat.lt_trans hj hN)
  rw [hc] at h5
  exact h5
theorem sA_of {args : Array Value} {s : State} {i t : Nat} (h : (Term.static (sC i) (sNm i) "[I").eval args s none [] s = some (.ref t)) : sA s i = t := by
  have h : (Term.static (sC i) (sNm i) "[I").eval #[] s none [] s = some (.ref t) := h
  unfold sA
  rw [h]
def FLT : List Cond := flatC (Jvm.Cond.and given_1 narrow_1)
theorem fl_z : ∀ j, j < 64 → FLT[9 + j]? = some (Cond.eq (.elem (.static (sC 0) (sNm 0) "[I") (.int (Int32.ofNat j))) (.int (nI (zzT j)))) := by decide +kernel
theorem fl_c : ∀ j, j < 64 → FLT[76 + j]? = some (Cond.eq (.elem (.static (sC 1) (sNm 1) "[I") (.int (Int32.ofNat j))) (.int (cosT j))) := by decide +kernel
theorem fl_w : ∀ j, j < 32 → FLT[143 + j]? = some (Cond.eq (.elem (.static (sC 2) (sNm 2) "[I") (.int (Int32.ofNat j))) (.int (wvT j))) := by decide +kernel
theorem st_all {b : Nat} {s : State} (h : (Jvm.Cond.and given_1 narrow_1).before #[Value.ref b] s = true) :
    (∃ cell, (Term.static (sC 0) (sNm 0) "[I").eval #[Value.ref b] s none [] s = some (.ref (sA s 0)) ∧ s.heap[sA s 0]? = some cell ∧ aOK s .int 64 (fun j => .int (nI (zzT j))) cell) ∧
    (∃ cell, (Term.static (sC 1) (sNm 1) "[I").eval #[Value.ref b] s none [] s = some (.ref (sA s 1)) ∧ s.heap[sA s 1]? = some cell ∧ aOK s .int 64 (fun j => .int (cosT j)) cell) ∧
    (∃ cell, (Term.static (sC 2) (sNm 2) "[I").eval #[Value.ref b] s none [] s = some (.ref (sA s 2)) ∧ s.heap[sA s 2]? = some cell ∧ aOK s .int 32 (fun j => .int (wvT j)) cell) := by
  have hs : ∀ w ∈ FLT, w.before #[Value.ref b] s = true := flat_of_before _ h
  refine ⟨?_, ?_, ?_⟩
  · obtain ⟨t, cell, h1, h2, h3⟩ := st_arr (args := #[Value.ref b]) (s := s) (C := sC 0) (n := sNm 0) (N := 64) (f := fun j => nI (zzT j)) (by decide) (hs _ (List.mem_of_getElem? (i := 7) (by decide +kernel))) (hs _ (List.mem_of_getElem? (i := 8) (by decide +kernel))) (fun j hj => hs _ (List.mem_of_getElem? (fl_z j hj)))
    obtain rfl := sA_of h1
    exact ⟨cell, h1, h2, h3⟩
  · obtain ⟨t, cell, h1, h2, h3⟩ := st_arr (args := #[Value.ref b]) (s := s) (C := sC 1) (n := sNm 1) (N := 64) (f := cosT) (by decide) (hs _ (List.mem_of_getElem? (i := 74) (by decide +kernel))) (hs _ (List.mem_of_getElem? (i := 75) (by decide +kernel))) (fun j hj => hs _ (List.mem_of_getElem? (fl_c j hj)))
    obtain rfl := sA_of h1
    exact ⟨cell, h1, h2, h3⟩
  · obtain ⟨t, cell, h1, h2, h3⟩ := st_arr (args := #[Value.ref b]) (s := s) (C := sC 2) (n := sNm 2) (N := 32) (f := wvT) (by decide) (hs _ (List.mem_of_getElem? (i := 141) (by decide +kernel))) (hs _ (List.mem_of_getElem? (i := 142) (by decide +kernel))) (fun j hj => hs _ (List.mem_of_getElem? (fl_w j hj)))
    obtain rfl := sA_of h1
    exact ⟨cell, h1, h2, h3⟩
theorem cx_start {b : Nat} {s : State} {l : Launch} (hst : l.stackTraces = false) (h : (Jvm.Cond.and given_1 narrow_1).before #[Value.ref b] s = true) (ht : ∀ w ∈ lw_tbl, w.before #[Value.ref b] s = true) : CX s l := by
  have hs : ∀ w ∈ FLT, w.before #[Value.ref b] s = true := flat_of_before _ h
  have hA : ∀ a : Nat, a < s.heap.size → ¬ frOf s a := fun a h1 h2 => Nat.not_lt.mpr h2 h1
  obtain ⟨⟨_, e0, _⟩, ⟨_, e1, _⟩, ⟨_, e2, _⟩⟩ := st_all h
  refine ⟨⟨_, ht⟩, hst, vx_Zqof (ht _ (by decide +kernel)) (ht _ (by decide +kernel)) (hs _ (List.mem_of_getElem? (i := 4) (by decide +kernel))) hA, vx_Zqof (ht _ (by decide +kernel)) (ht _ (by decide +kernel)) (hs _ (List.mem_of_getElem? (i := 5) (by decide +kernel))) hA, fun i hi => ?_⟩
  rcases (show i = 0 ∨ i = 1 ∨ i = 2 by omega) with rfl | rfl | rfl
  · exact va_Zof (ht _ (by decide +kernel)) (ht _ (by decide +kernel)) e0 hA
  · exact va_Zof (ht _ (by decide +kernel)) (ht _ (by decide +kernel)) e1 hA
  · exact va_Zof (ht _ (by decide +kernel)) (ht _ (by decide +kernel)) e2 hA
theorem k0 {s : State} {b a : Nat} (h : a = sA s 0 ∨ a = sA s 1 ∨ a = sA s 2 ∨ a = b) : mK (h00 s b) a = 21 := if_pos h
theorem s0_start {b L : Nat} {s : State} {xs : Nat → Int32} (hL : L ≤ 3072) (h : (Jvm.Cond.and given_1 narrow_1).before #[Value.ref b] s = true) (hx : va_X b L xs s s.heap) : S0 s b L xs (h00 s b) ∧ Rep s (h00 s b) s.heap := by
  obtain ⟨⟨c0, -, g0, f0⟩, ⟨c1, -, g1, f1⟩, ⟨c2, -, g2, f2⟩⟩ := st_all h
  obtain ⟨cb, gb, y1, y2, y3, y4⟩ := hx
  have fb : aOK s .int L (fun j => .int (xs j)) cb := ⟨y1, y2, y3, by omega, y4⟩
  refine ⟨⟨⟨(Array.getElem?_eq_some_iff.mp g0).1, (Array.getElem?_eq_some_iff.mp g1).1, (Array.getElem?_eq_some_iff.mp g2).1, (Array.getElem?_eq_some_iff.mp gb).1⟩, ⟨k0 (Or.inl rfl), hL0_of g0 f0, hI0_of g0 f0⟩, ⟨k0 (Or.inr (Or.inl rfl)), hL0_of g1 f1, hI0_of g1 f1⟩, ⟨k0 (Or.inr (Or.inr (Or.inl rfl))), hL0_of g2 f2, hI0_of g2 f2⟩, k0 (Or.inr (Or.inr (Or.inr rfl))), hL0_of gb fb, hI0_of gb fb⟩, rfl, Nat.le_refl _, fun _ _ => rfl, fun a ha => ?_⟩
  have ha : a = sA s 0 ∨ a = sA s 1 ∨ a = sA s 2 ∨ a = b := by
    by_cases e : a = sA s 0 ∨ a = sA s 1 ∨ a = sA s 2 ∨ a = b
    · exact e
    · exact absurd (if_neg e) ha
  have hk := k0 ha
  refine ⟨?_, Or.inl hk⟩
  have key : ∃ cell, s.heap[a]? = some cell ∧ aOK s .int (hL0 s a) (fun j => .int (hI0 s a j)) cell := by
    rcases ha with rfl | rfl | rfl | rfl
    · exact ⟨c0, g0, f0.h0 g0⟩
    · exact ⟨c1, g1, f1.h0 g1⟩
    · exact ⟨c2, g2, f2.h0 g2⟩
    · exact ⟨cb, gb, fb.h0 gb⟩
  obtain ⟨cell, q1, q2⟩ := key
  refine ⟨cell, q1, ?_⟩
  unfold cOK
  rw [if_pos (Or.inr hk)]
  exact q2
/-- from the entry, for every script of at most 3072 ints, the law comes to its end with true -/
theorem whole_start {p : Program} {e : Env} {s : State} {m : MethodId} {below : List Frame} {meth : Method} {c : Code} (l : Launch) {b L : Nat} {xs : Nat → Int32} (hst : l.stackTraces = false) (hnm : meth.name = "law") (htb : c.exceptionTable.toList = []) (hL : L ≤ 3072) (C0 : lw_At p s m meth c b L xs) : W p l e room_1 s m #[Value.ref b] below meth c s.heap [] 0 0 (lw_Z below #[Value.ref b] s) (entryFrame m ([Value.ref b] : List Value).toArray 7) := by
  obtain ⟨hexec, hcode, hret, hml, hown, hts, hX, hbl, hlk, hgv⟩ := C0
  obtain ⟨x0, r0⟩ := s0_start hL hgv hX
  have hcx := cx_start hst hgv hts
  obtain ⟨o, hE, k, q1, q2, q3⟩ := w_all (s0 := s) (l := l) hL rfl x0
  have he : EN s l M_W_law (h00 s b) p s m meth c := ⟨hexec, hcode, hml, hown, hlk, hret, hnm, htb, State.WarmedH.refl s, fun _ _ => rfl, rfl, Nat.le_refl _, hcx⟩
  have kw := k.2 p e s m #[Value.ref b] below meth c he s.heap [] _ ⟨r0, (fun _ hq => absurd hq List.not_mem_nil), lvs.ent (av := [Value.ref b]) (fun v hv => by rw [List.mem_singleton.mp hv]; rfl) (Nat.le_of_ble_eq_true rfl), Nat.le_refl _, Nat.le_refl _⟩
  rw [Nat.sub_self, Nat.sub_self] at kw
  rw [lg_entry_eq]
  intro T hT X
  have n1 : mN hE - mN (h00 s b) ≤ 601024 := by omega
  have n2 : mU hE - mU (h00 s b) ≤ 7293034 := by omega
  have X' : Stand p l e (rmOf M_W_law (h00 s b) hE) s m #[Value.ref b] below meth c T [] 0 0 := { X with room := room_le (r' := room_1) (Nat.le_refl 15) (Nat.le_refl 580) n1 n2 X.room }
  obtain ⟨t, a1, oc, b1, b2, b3⟩ := kw T hT X'
  refine ⟨t, a1, oc, b1, b2, ?_⟩
  rcases b3 with ⟨⟨v, w1, w2, -⟩, Lc, w3, w4⟩ | ⟨q, -, E, ce, Lc, ⟨w1, -⟩, -⟩
  · rw [q1] at w1
    obtain rfl := Sum.inl.inj w1
    refine ⟨w2, w3.1, w3.2.1, ?_⟩
    exact w3.2.2.weaken (fun y hy hlt => absurd hlt (Nat.not_lt.mpr (w4 y hy))) n1 n2
  · rw [q1] at w1
    cases w1

set_option maxHeartbeats 4000000 in
theorem lw_walk (l : Launch) (hst : l.stackTraces = false) (b : Addr) (xs : List Int32) : MetFree l x (headSpec (Jvm.Cond.code x code maxLocals ret :: tables_1) room_1) (lw_P b xs) (fun _ _ _ _ _ => True) lw_Q := by
  refine MetFree.of_bodyS (code := code) (maxLocals := maxLocals) (ret := ret) (by decide) ?_ ?_
  · intro args s m h hn
    obtain ⟨meth, c, h1, h2, h3, h4, h5, h6, -, -⟩ := Cond.code_spec hn (atoms_spec (ws := Jvm.Cond.code x code maxLocals ret :: tables_1) h _ List.mem_cons_self)
    exact ⟨meth, c, h1, h2, h3, h4, h5, h6⟩
  · intro p e s m args below meth c s₁ B hml0 hP _
    obtain ⟨rfl, hx, hbd, hgv⟩ := hP
    obtain ⟨scr, harrAt, hlist, hof, hsmall⟩ := hx
    obtain ⟨hcb, hkn, -, -⟩ := State.arrayAt?_spec harrAt
    have hown : s.vm.findClass R_law = some m.cls := findClass_of_methodNamed B.named
    have hts0 : ∀ c ∈ (Jvm.Cond.code x code maxLocals ret :: tables_1), c.before #[Value.ref b] s = true := atoms_spec (ws := Jvm.Cond.code x code maxLocals ret :: tables_1) B.pre
    have hts : ∀ w ∈ lw_tbl, w.before #[Value.ref b] s = true := k2_hts_sels lw_privs (fun w hw => hts0 w (List.mem_cons_of_mem _ hw)) lw_privs_ok
    have hml : c.maxLocals = 7 := B.maxLocals_eq (hts0 _ List.mem_cons_self)
    have htb : c.exceptionTable.toList = [] := by
      obtain ⟨meth9, c9, h1, h2, -, -, -, -, h7, -⟩ := Cond.code_spec B.named (hts0 _ List.mem_cons_self)
      cases Option.some.inj (h1.symm.trans B.method)
      cases Option.some.inj (h2.symm.trans (Stand.of_body B).code)
      rw [Array.isEmpty_iff.mp h7]
    have X₀ : Stand p l e room_1 s m #[Value.ref b] below meth c s₁ [] 0 0 := Stand.of_body B
    have hh0 : s₁.heap = s.heap := by rw [B.state]; rfl
    have hsz : scr.slots.size = xs.length := by rw [← Array.length_toList, hlist, List.length_map]
    have hval : ∀ j : Nat, j < xs.length → scr.slots[j]? = some (.int (xs.getD j 0)) := fun j hj => by
      rw [← Array.getElem?_toList, hlist]
      simp [hj]
    have hbl : b < s.heap.size := (Array.getElem?_eq_some_iff.mp hcb).1
    have hX : va_X b xs.length (fun j => xs.getD j 0) s s.heap := ⟨scr, hcb, hof, hkn, hsz, hval⟩
    have K : W p l e room_1 s m #[Value.ref b] below meth c s₁.heap [] 0 0 (lw_Z below #[Value.ref b] s) (entryFrame m ([Value.ref b] : List Value).toArray 7) := by
      rw [hh0]
      exact whole_start l hst (name_of_methodNamed B.named B.method).1 htb hbd ⟨B.exec, B.bytes, B.returns, hml, hown, hts, hX, hbl, B.notSynchronized, hgv⟩
    obtain ⟨t, a1, o, b1, b2, b3⟩ := K s₁ rfl X₀
    exact ⟨t, o, a1, b1, b2, b3⟩
theorem lw_pre_spec {args : Array Value} {s : State} (h : (Jvm.Cond.and given_1 narrow_1).before args s = true) (hr : rest_1_c.before args s = true) : ∃ (b : Addr) (xs : List Int32), lw_P b xs args s := by
  have hs := flat_of_before _ h
  have hq := flat_of_before _ hr
  have hc : (Cond.count 1).before args s = true := hs _ (by decide +kernel)
  have harr : (Cond.arrayOf (.arg 0) .int).before args s = true := hs _ (by decide +kernel)
  have hle : (Cond.le (.length (.arg 0)) (.int 3072)).before args s = true := hs _ (by decide +kernel)
  have hlen : (Cond.isInt (.length (.arg 0))).before args s = true := hq _ (by decide +kernel)
  have hall : (Cond.all (.arg 0) (.isInt (.elem (.arg 0) (.index 0)))).before args s = true := hq _ (by decide +kernel)
  obtain ⟨b, xs, hb, hx⟩ := State.ints_of_pre rfl harr hlen hall
  have hsm : xs.length < 2 ^ 31 := hx.choose_spec.2.2.2
  have hev : (Term.length (.arg 0)).eval args s none [] s = some (.int xs.length.toInt32) := hx.length_eval hb
  have hv := Cond.le_ints hev (show (Term.int 3072).eval args s none [] s = some (.int 3072) from rfl)
  have hd : xs.length.toInt32 ≤ 3072 := by
    simpa [Cond.before, Cond.holds, hv] using hle
  have hN : xs.length ≤ 3072 := (Int32.ofNat_le_ofNat hsm (by decide)).mp (show Int32.ofNat xs.length ≤ Int32.ofNat 3072 from hd)
  exact ⟨b, xs, Cond.one_arg hc (show args[0]? = some (.ref b) from hb), hx, hN, h⟩
theorem lw_comes (l : Launch) (hst : l.stackTraces = false) : Comes l x (Jvm.Cond.code x code maxLocals ret :: tables_1) room_1 (fun tb e args s => Calls_1 tb e args s ∧ rest_1 tb e args s ∧ Pre_1 tb e args s)
    (fun _ _ args s o t => lw_Q args s o t) := by
  intro p e ha hc hk s m args below hf hfit hheap happ hpre
  obtain ⟨b, xs, hP⟩ := lw_pre_spec hpre.2.2 hpre.2.1
  obtain ⟨k, o, h1, h2, h3, hQ⟩ := lw_walk l hst b xs p e ha hc hk s m args below hf ((Spec.applies_iff_loose hf).mp happ).1 hP trivial
  exact ⟨k, o, h1, h2, h3, hQ⟩
theorem lw_frame {s t : State} {o : Outcome} {args : Array Value} (h : Framed s o t [] 601024 7293034) :
    Framed s o t (fieldLocs frame_1_writes args s ++ arrayLocs frame_1_arrays args s ++ staticLocs frame_1_statics s) 601024 7293034 := h
theorem lw_limb (L : Cond) (hL : ∀ (args : Array Value) (s t : State), L.after args s (.returned (some (.int 1))) t = true) :
    ArmFor flags0 classFile x code maxLocals ret World_1 tables_1 room_1 Calls_1 rest_1 Pre_1
      (fun tb e a s o t => postC L tb e a s o t ∧ Framed s o t (fieldLocs frame_1_writes a s ++ arrayLocs frame_1_arrays a s ++ staticLocs frame_1_statics s) 601024 7293034) := by
  intro l hfl _ _ p e ha hc hk s m args below hf hfit hheap happ hpre
  obtain ⟨k, o, h1, h2, h3, rfl, hF⟩ := lw_comes l (by unfold Launch.stackTraces; rw [hfl]; decide) p e ha hc hk s m args below hf hfit hheap happ hpre
  exact ⟨k, _, h1, h2, h3, hL args s _, lw_frame hF⟩
theorem i_vc : Claimed_1_1 ∧ Claimed_1_2 := ⟨lw_limb limb_1_1 (fun args s t => by simp [limb_1_1, Cond.after, Cond.holds, Cond.value]), lw_limb limb_1_2 (fun args s t => Cond.after_iff.mpr (by
  first | (rw [show limb_1_2 = Cond.eq .result (.int 1) from rfl, Cond.eq_ints (x := 1) (y := 1) rfl rfl]; simp; done) | (simp [limb_1_2, Cond.value, Term.eval]; done)))⟩

