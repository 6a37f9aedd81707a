section Rules
variable {s0 : State} {l : Launch} {M M' : MI} {h0 : Mem} {pc : Nat} {L : List (Option Value)} {st0 rest : List Value} {h : Mem} {Q Q' : Out → Mem → Prop} {av As : List Value}
theorem call_q1 {o' : Out} {h1 : Mem} (hC : C s0 l M' av h o' h1) (hrun : ∀ hE, (mN h1 ≤ mN hE ∧ mU h1 ≤ mU hE) → ∀ (p : Program) (e : Env) (s : State) (m : MethodId) (args : Array Value) (below : List Frame) (meth : Method) (c : Code), EN s0 l M h0 p s m meth c → ∀ (H : Heap) (locs : List Loc) (ls : Array Slot), ST s0 M h0 h L H locs ls →
      vx_Run p l e (rmOf M h0 hE) s m args below meth c H locs (mN h - mN h0) (mU h - mU h0) (mN h1 - mN h) (mU h1 - mU h) (F0 m pc ls st0) rest (QcOf s0 o' h1 av.toArray) (XcOf s0 o' h1) (frOf s0))
    (k1 : ∀ v, o' = .inl v → RQ s0 l M h0 (pc + 3) L (v.toList ++ rest) h1 Q) (k2 : ∀ E0, o' = .inr E0 → RQX s0 l M h0 pc L E0 h1 Q) : RQ s0 l M h0 pc L st0 h Q := by
  have hm := hC.1
  cases o' with
  | inl v =>
    obtain ⟨o, hE, k, b⟩ := k1 v rfl
    refine ⟨o, hE, ⟨⟨Nat.le_trans hm.1 k.1.1, Nat.le_trans hm.2 k.1.2⟩, fun p e s m args below meth c E H locs ls S => ?_⟩, b⟩
    have s3 := S.2.2.2.1
    have s4 := S.2.2.2.2
    intro T hT X
    rcases hrun _ k.1 p e s m args below meth c E H locs ls S T hT X with ⟨v', st₀, t, T', Lc, -, X', hL, e1, -, ⟨v'', hv, hv2, hRep⟩, stp⟩ | ⟨q9, st₀, t, T', Lc, E9, ce, -, -, -, -, -, ⟨hx, -⟩, -⟩
    · cases hv
      cases hv2
      rw [show mN h - mN h0 + (mN h1 - mN h) = mN h1 - mN h0 by omega, show mU h - mU h0 + (mU h1 - mU h) = mU h1 - mU h0 by omega] at X'
      obtain ⟨t2, a1, b1⟩ := k.2 p e s m args below meth c E T'.heap (locs ++ Lc) ls ⟨by rw [e1]; exact hRep, fun z hz => (List.mem_append.mp hz).elim (S.2.1 z) (hL z), S.2.2.1, by omega, by omega⟩ T' rfl X'
      exact ⟨t2, stp t2 a1, b1⟩
    · cases hx
  | inr E0 =>
    obtain ⟨o, hE, k, b⟩ := k2 E0 rfl
    refine ⟨o, hE, ⟨⟨Nat.le_trans hm.1 k.1.1, Nat.le_trans hm.2 k.1.2⟩, fun p e s m args below meth c E H locs ls S => ?_⟩, b⟩
    have s3 := S.2.2.2.1
    have s4 := S.2.2.2.2
    intro T hT X
    rcases hrun _ k.1 p e s m args below meth c E H locs ls S T hT X with ⟨v', st₀, t, T', Lc, -, X', hL, e1, -, ⟨v'', hv, hv2, hRep⟩, stp⟩ | ⟨q9, st₀, t, T', Lc, E9, ce, -, X', hL, e1, -, ⟨hx, hRep⟩, hce, hcv, hcl, stp⟩
    · cases hv
    · cases hx
      rw [show mN h - mN h0 + (mN h1 - mN h) = mN h1 - mN h0 by omega, show mU h - mU h0 + (mU h1 - mU h) = mU h1 - mU h0 by omega] at X'
      obtain ⟨t2, a1, b1⟩ := k.2 p e s m args below meth c E T'.heap (locs ++ Lc) ls rest q9 ce ⟨by rw [e1]; exact hRep, fun z hz => (List.mem_append.mp hz).elim (S.2.1 z) (hL z), S.2.2.1, by omega, by omega⟩ (by rw [e1]; exact hce) hcv hcl T' rfl X'
      exact ⟨t2, stp.trans a1, b1⟩
theorem call_q (hrun : ∀ o' h1 hE, C s0 l M' av h o' h1 → (mN h1 ≤ mN hE ∧ mU h1 ≤ mU hE) → ∀ (p : Program) (e : Env) (s : State) (m : MethodId) (args : Array Value) (below : List Frame) (meth : Method) (c : Code), EN s0 l M h0 p s m meth c → ∀ (H : Heap) (locs : List Loc) (ls : Array Slot), ST s0 M h0 h L H locs ls →
      vx_Run p l e (rmOf M h0 hE) s m args below meth c H locs (mN h - mN h0) (mU h - mU h0) (mN h1 - mN h) (mU h1 - mU h) (F0 m pc ls st0) rest (QcOf s0 o' h1 av.toArray) (XcOf s0 o' h1) (frOf s0))
    (hc : CQ s0 l M' av h Q') (k1 : ∀ v h1, Q' (.inl v) h1 → RQ s0 l M h0 (pc + 3) L (v.toList ++ rest) h1 Q) (k2 : ∀ E0 h1, Q' (.inr E0) h1 → RQX s0 l M h0 pc L E0 h1 Q) : RQ s0 l M h0 pc L st0 h Q := by
  obtain ⟨o', h1, hC, q⟩ := hc
  exact call_q1 hC (fun hE => hrun o' h1 hE hC) (fun v e => k1 v h1 (e ▸ q)) (fun E0 e => k2 E0 h1 (e ▸ q))
theorem cd_code (hH : iH M' = []) : cdw M' = .code (iY M') (iC M') (iL M') (iR M') := by unfold cdw; rw [if_pos hH]
theorem cd_with (hH : iH M' ≠ []) : cdw M' = .codeWith (iY M') (iC M') (iL M') (iR M') (iH M') := by unfold cdw; rw [if_neg hH]
theorem ws_at {s : State} (g : G0 s0) (hW : s0.WarmedH s.vm) (hw : cdw M' ∈ lw_tbl) : ∀ w ∈ [cdw M'], ∀ (a' : Array Value) (U : State), s.WarmedH U.vm → w.before a' U = true := fun w h9 a' U hU => by
  rw [List.mem_singleton.mp h9]
  exact g.word (wtr hW hU) hw (goodCd M')
theorem rm_le {a b c d : Nat} (h1 : a ≤ b) (h2 : b ≤ c) (h3 : c ≤ d) : b - a + (c - b) ≤ d - a := by omega
/-- a virtual call; the callee has no handlers -/
theorem q_callV {idx ci n b : Nat} (hd : decode (iC M) pc = .ok (.invokevirtual idx, 3)) (hl : Cond.methodLink (iY M).cls idx (iY M') ∈ lw_tbl) (mv : MV M' ci n) (hH : iH M' = []) (hk : mK h b = ci + 1) (hn : As.length = n) (hs : st0 = As.reverse ++ .ref b :: rest) (hw : (rest.map fun v => v.category).sum ≤ 8) (hr : iF M' + 1 ≤ iF M ∧ 8 + (iL M' + 11) + iW M' ≤ iW M)
    (hc : CQ s0 l M' (.ref b :: As) h Q') (k1 : ∀ v h1, Q' (.inl v) h1 → RQ s0 l M h0 (pc + 3) L (v.toList ++ rest) h1 Q) (k2 : ∀ E0 h1, Q' (.inr E0) h1 → RQX s0 l M h0 pc L E0 h1 Q) : RQ s0 l M h0 pc L st0 h Q := by
  refine call_q (fun o' h1 hE hC hm p e s m args below meth c E H locs ls S => ?_) hc k1 k2
  obtain ⟨⟨m0, m1⟩, m2, m3, m4, m5, m6, m7⟩ := mv
  obtain ⟨cell, c1, c2, c3, -⟩ := S.1.obj m0 hk
  have hcw : Cond.code (iY M') (iC M') (iL M') (iR M') ∈ [cdw M'] := by rw [cd_code hH]; exact List.mem_cons_self
  exact vx_runV (Ts := []) (bytes := iC M') (maxL := iL M') (ret := iR M') (own := (iY M).cls) ⟨E.1, E.2.1, E.2.2.1, E.own, fun w h9 => absurd h9 List.not_mem_nil⟩ hC.2
    ⟨⟨rfl, rfl, hr.1, hr.2, ws_at E.g E.w m5, hcw, by rw [← cd_code hH]; exact E.g.word E.w m5 (goodCd M'), E.g.word E.w m4 rfl, m6, plen m7, E.g.word E.w hl rfl⟩, E.g.word E.w m2 rfl, E.g.word E.w m3 rfl⟩
    ⟨PcOf.blind, ⟨cell, c1, by rw [c3]; rfl, by rw [c2, m1]; exact (kn E.g E.w m0).2.1⟩, fun U hU hW => ⟨rfl, wtr E.w hW, by rw [hU]; exact S.1, E.cx⟩⟩ rfl hn S.2.2.1.1 hs (by show 2 * 0 + _ ≤ 8; omega) hd ⟨rm_le S.2.2.2.1 hC.1.1 hm.1, rm_le S.2.2.2.2 hC.1.2 hm.2⟩
/-- a virtual call; the callee has handlers -/
theorem q_callVH {idx ci n b : Nat} (hd : decode (iC M) pc = .ok (.invokevirtual idx, 3)) (hl : Cond.methodLink (iY M).cls idx (iY M') ∈ lw_tbl) (mv : MV M' ci n) (hH : iH M' ≠ []) (hk : mK h b = ci + 1) (hn : As.length = n) (hs : st0 = As.reverse ++ .ref b :: rest) (hw : (rest.map fun v => v.category).sum ≤ 8) (hr : iF M' + 1 ≤ iF M ∧ 8 + (iL M' + 11) + iW M' ≤ iW M)
    (hc : CQ s0 l M' (.ref b :: As) h Q') (k1 : ∀ v h1, Q' (.inl v) h1 → RQ s0 l M h0 (pc + 3) L (v.toList ++ rest) h1 Q) (k2 : ∀ E0 h1, Q' (.inr E0) h1 → RQX s0 l M h0 pc L E0 h1 Q) : RQ s0 l M h0 pc L st0 h Q := by
  refine call_q (fun o' h1 hE hC hm p e s m args below meth c E H locs ls S => ?_) hc k1 k2
  obtain ⟨⟨m0, m1⟩, m2, m3, m4, m5, m6, m7⟩ := mv
  obtain ⟨cell, c1, c2, c3, -⟩ := S.1.obj m0 hk
  have hcw : Cond.codeWith (iY M') (iC M') (iL M') (iR M') (iH M') ∈ [cdw M'] := by rw [cd_with hH]; exact List.mem_cons_self
  exact vx_runVX (Ts := []) (hh := iH M') (bytes := iC M') (maxL := iL M') (ret := iR M') (own := (iY M).cls) ⟨E.1, E.2.1, E.2.2.1, E.own, fun w h9 => absurd h9 List.not_mem_nil⟩ hC.2
    ⟨⟨rfl, rfl, hr.1, hr.2, ws_at E.g E.w m5, hcw⟩, by rw [← cd_with hH]; exact E.g.word E.w m5 (goodCd M'), E.g.word E.w m4 rfl, m6, plen m7, E.g.word E.w hl rfl, E.g.word E.w m2 rfl, E.g.word E.w m3 rfl⟩
    ⟨PcOf.blind, ⟨cell, c1, by rw [c3]; rfl, by rw [c2, m1]; exact (kn E.g E.w m0).2.1⟩, fun U hU hW => ⟨rfl, wtr E.w hW, by rw [hU]; exact S.1, E.cx⟩⟩ rfl hn S.2.2.1.1 hs (by show 2 * 0 + _ ≤ 8; omega) hd ⟨rm_le S.2.2.2.1 hC.1.1 hm.1, rm_le S.2.2.2.2 hC.1.2 hm.2⟩
theorem q_callS {idx n : Nat} (hd : decode (iC M) pc = .ok (.invokestatic idx, 3)) (hl : Cond.methodLink (iY M).cls idx (iY M') ∈ lw_tbl) (mv : MS M' n) (hH : iH M' = []) (hn : As.length = n) (hs : st0 = As.reverse ++ rest) (hw : (rest.map fun v => v.category).sum ≤ 8) (hr : iF M' + 1 ≤ iF M ∧ 8 + (iL M' + 11) + iW M' ≤ iW M)
    (hc : CQ s0 l M' As h Q') (k1 : ∀ v h1, Q' (.inl v) h1 → RQ s0 l M h0 (pc + 3) L (v.toList ++ rest) h1 Q) (k2 : ∀ E0 h1, Q' (.inr E0) h1 → RQX s0 l M h0 pc L E0 h1 Q) : RQ s0 l M h0 pc L st0 h Q := by
  refine call_q (fun o' h1 hE hC hm p e s m args below meth c E H locs ls S => ?_) hc k1 k2
  obtain ⟨m2, m4, m5, m6, m7⟩ := mv
  have hcw : Cond.code (iY M') (iC M') (iL M') (iR M') ∈ [cdw M'] := by rw [cd_code hH]; exact List.mem_cons_self
  exact vx_runS (Ts := []) (bytes := iC M') (maxL := iL M') (ret := iR M') (own := (iY M).cls) ⟨E.1, E.2.1, E.2.2.1, E.own, fun w h9 => absurd h9 List.not_mem_nil⟩ hC.2
    ⟨⟨rfl, rfl, hr.1, hr.2, ws_at E.g E.w m5, hcw, by rw [← cd_code hH]; exact E.g.word E.w m5 (goodCd M'), E.g.word E.w m4 rfl, m6, plen m7, E.g.word E.w hl rfl⟩, E.g.word E.w m2 rfl⟩
    ⟨PcOf.blind, fun U hU hW => ⟨rfl, wtr E.w hW, by rw [hU]; exact S.1, E.cx⟩⟩ rfl hn S.2.2.1.1 hs (by show 2 * 0 + _ ≤ 8; omega) hd ⟨rm_le S.2.2.2.1 hC.1.1 hm.1, rm_le S.2.2.2.2 hC.1.2 hm.2⟩
theorem q_callSH {idx n : Nat} (hd : decode (iC M) pc = .ok (.invokestatic idx, 3)) (hl : Cond.methodLink (iY M).cls idx (iY M') ∈ lw_tbl) (mv : MS M' n) (hH : iH M' ≠ []) (hn : As.length = n) (hs : st0 = As.reverse ++ rest) (hw : (rest.map fun v => v.category).sum ≤ 8) (hr : iF M' + 1 ≤ iF M ∧ 8 + (iL M' + 11) + iW M' ≤ iW M)
    (hc : CQ s0 l M' As h Q') (k1 : ∀ v h1, Q' (.inl v) h1 → RQ s0 l M h0 (pc + 3) L (v.toList ++ rest) h1 Q) (k2 : ∀ E0 h1, Q' (.inr E0) h1 → RQX s0 l M h0 pc L E0 h1 Q) : RQ s0 l M h0 pc L st0 h Q := by
  refine call_q (fun o' h1 hE hC hm p e s m args below meth c E H locs ls S => ?_) hc k1 k2
  obtain ⟨m2, m4, m5, m6, m7⟩ := mv
  have hcw : Cond.codeWith (iY M') (iC M') (iL M') (iR M') (iH M') ∈ [cdw M'] := by rw [cd_with hH]; exact List.mem_cons_self
  exact vx_runSX (Ts := []) (hh := iH M') (bytes := iC M') (maxL := iL M') (ret := iR M') (own := (iY M).cls) ⟨E.1, E.2.1, E.2.2.1, E.own, fun w h9 => absurd h9 List.not_mem_nil⟩ hC.2
    ⟨⟨rfl, rfl, hr.1, hr.2, ws_at E.g E.w m5, hcw⟩, by rw [← cd_with hH]; exact E.g.word E.w m5 (goodCd M'), E.g.word E.w m4 rfl, m6, plen m7, E.g.word E.w hl rfl, E.g.word E.w m2 rfl⟩
    ⟨PcOf.blind, fun U hU hW => ⟨rfl, wtr E.w hW, by rw [hU]; exact S.1, E.cx⟩⟩ rfl hn S.2.2.1.1 hs (by show 2 * 0 + _ ≤ 8; omega) hd ⟨rm_le S.2.2.2.1 hC.1.1 hm.1, rm_le S.2.2.2.2 hC.1.2 hm.2⟩
/-- calls that only return: constructors, and private members of a nest mate -/
theorem run_vx {p : Program} {e : Env} {R9 : Room} {s : State} {m : MethodId} {args : Array Value} {below : List Frame} {meth : Method} {c : Code} {H : Heap} {locs : List Loc} {cells slots mc ms : Nat} {g : JFrame} {Qa : State → Outcome → State → Prop} {XC : String → State → State → Prop} {free : Addr → Prop} (hr : va_Run p l e R9 s m args below meth c H locs cells slots mc ms g rest Qa free) : vx_Run p l e R9 s m args below meth c H locs cells slots mc ms g rest Qa XC free := fun T hT X => Or.inl (hr T hT X)
theorem q_callI {idx n b : Nat} {Q1 : Mem → Prop} (hd : decode (iC M) pc = .ok (.invokespecial idx, 3)) (hl : Cond.methodLink (iY M).cls idx (iY M') ∈ lw_tbl) (mv : MC M' n) (hH : iH M' = []) (hR : iR M' = none) (hn : As.length = n) (hs : st0 = As.reverse ++ .ref b :: rest) (hw : (rest.map fun v => v.category).sum ≤ 8) (hr : iF M' + 1 ≤ iF M ∧ 8 + (iL M' + 11) + iW M' ≤ iW M)
    (hc : CQ s0 l M' (.ref b :: As) h (fun o h1 => o = .inl none ∧ Q1 h1)) (k1 : ∀ h1, Q1 h1 → RQ s0 l M h0 (pc + 3) L rest h1 Q) : RQ s0 l M h0 pc L st0 h Q := by
  obtain ⟨o9, h9, hC, rfl, q9⟩ := hc
  refine call_q1 hC (fun hE hm p e s m args below meth c E H locs ls S => ?_) (fun v e => by cases e; exact k1 _ q9) (fun E0 e => by cases e)
  obtain ⟨m1, m2, m4, m5, m6, m7⟩ := mv
  have hcd : cdw M' = .code (iY M') (iC M') (iL M') none := by rw [← hR]; exact cd_code hH
  have hcw : Cond.code (iY M') (iC M') (iL M') none ∈ [cdw M'] := by rw [hcd]; exact List.mem_cons_self
  exact run_vx (va_runI (Ts := []) (bytes := iC M') (maxL := iL M') (own := (iY M).cls) ⟨E.1, E.2.1, E.2.2.1, E.own, fun w h9 => absurd h9 List.not_mem_nil⟩ hC.met
    ⟨⟨rfl, rfl, hr.1, hr.2, ws_at E.g E.w m5, hcw, by rw [← hcd]; exact E.g.word E.w m5 (goodCd M'), E.g.word E.w m4 rfl, m6, plen m7, E.g.word E.w hl rfl⟩, m1, E.g.word E.w m2 rfl⟩
    ⟨PcOf.blind, fun U hU hW => ⟨rfl, wtr E.w hW, by rw [hU]; exact S.1, E.cx⟩⟩ rfl hn S.2.2.1.1 hs (by show 2 * 0 + _ ≤ 8; omega) hd ⟨rm_le S.2.2.2.1 hC.1.1 hm.1, rm_le S.2.2.2.2 hC.1.2 hm.2⟩)
theorem G0.nest {s : State} {a : String} {i : Nat} {x : MethodName} {hh : String} (g : G0 s0) (hW : s0.WarmedH s.vm) (hw : Cond.methodLinkNest a i x hh ∈ lw_tbl) : va_Nw (.methodLinkNest a i x hh) s := by
  obtain ⟨av, h⟩ := g
  exact va_Nw.warmM hW (va_Nw.of rfl (h _ hw))
theorem q_callIN {idx n b : Nat} {Q1 : Mem → Prop} (hd : decode (iC M) pc = .ok (.invokespecial idx, 3)) (hl : Cond.methodLinkNest (iY M).cls idx (iY M') "ReelReader" ∈ lw_tbl) (mv : MC M' n) (hH : iH M' = []) (hR : iR M' = none) (hn : As.length = n) (hs : st0 = As.reverse ++ .ref b :: rest) (hw : (rest.map fun v => v.category).sum ≤ 8) (hr : iF M' + 1 ≤ iF M ∧ 8 + (iL M' + 11) + iW M' ≤ iW M)
    (hc : CQ s0 l M' (.ref b :: As) h (fun o h1 => o = .inl none ∧ Q1 h1)) (k1 : ∀ h1, Q1 h1 → RQ s0 l M h0 (pc + 3) L rest h1 Q) : RQ s0 l M h0 pc L st0 h Q := by
  obtain ⟨o9, h9, hC, rfl, q9⟩ := hc
  refine call_q1 hC (fun hE hm p e s m args below meth c E H locs ls S => ?_) (fun v e => by cases e; exact k1 _ q9) (fun E0 e => by cases e)
  obtain ⟨m1, m2, m4, m5, m6, m7⟩ := mv
  have hcd : cdw M' = .code (iY M') (iC M') (iL M') none := by rw [← hR]; exact cd_code hH
  have hcw : Cond.code (iY M') (iC M') (iL M') none ∈ [cdw M'] := by rw [hcd]; exact List.mem_cons_self
  exact run_vx (va_runIN (Ts := []) (bytes := iC M') (maxL := iL M') (own := (iY M).cls) (host := "ReelReader") ⟨E.1, E.2.1, E.2.2.1, E.own, fun w h9 => absurd h9 List.not_mem_nil⟩ hC.met
    ⟨⟨⟨rfl, rfl, hr.1, hr.2, ws_at E.g E.w m5, hcw⟩, by rw [← hcd]; exact E.g.word E.w m5 (goodCd M'), E.g.word E.w m4 rfl, m6, plen m7, va_Nw.use rfl (E.g.nest E.w hl)⟩, m1, E.g.word E.w m2 rfl⟩
    ⟨PcOf.blind, fun U hU hW => ⟨rfl, wtr E.w hW, by rw [hU]; exact S.1, E.cx⟩⟩ rfl hn S.2.2.1.1 hs (by show 2 * 0 + _ ≤ 8; omega) hd ⟨rm_le S.2.2.2.1 hC.1.1 hm.1, rm_le S.2.2.2.2 hC.1.2 hm.2⟩)
theorem q_callSN {idx n : Nat} {Q1 : Option Value → Mem → Prop} (hd : decode (iC M) pc = .ok (.invokestatic idx, 3)) (hl : Cond.methodLinkNest (iY M).cls idx (iY M') "ReelReader" ∈ lw_tbl) (mv : MS M' n) (hH : iH M' = []) (hn : As.length = n) (hs : st0 = As.reverse ++ rest) (hw : (rest.map fun v => v.category).sum ≤ 8) (hr : iF M' + 1 ≤ iF M ∧ 8 + (iL M' + 11) + iW M' ≤ iW M)
    (hc : CQ s0 l M' As h (fun o h1 => ∃ v, o = .inl v ∧ Q1 v h1)) (k1 : ∀ v h1, Q1 v h1 → RQ s0 l M h0 (pc + 3) L (v.toList ++ rest) h1 Q) : RQ s0 l M h0 pc L st0 h Q := by
  obtain ⟨o9, h9, hC, v9, rfl, q9⟩ := hc
  refine call_q1 hC (fun hE hm p e s m args below meth c E H locs ls S => ?_) (fun v e => by cases e; exact k1 _ _ q9) (fun E0 e => by cases e)
  obtain ⟨m2, m4, m5, m6, m7⟩ := mv
  have hcw : Cond.code (iY M') (iC M') (iL M') (iR M') ∈ [cdw M'] := by rw [cd_code hH]; exact List.mem_cons_self
  exact run_vx (va_runSN (Ts := []) (bytes := iC M') (maxL := iL M') (ret := iR M') (own := (iY M).cls) (host := "ReelReader") ⟨E.1, E.2.1, E.2.2.1, E.own, fun w h9 => absurd h9 List.not_mem_nil⟩ hC.met
    ⟨⟨⟨rfl, rfl, hr.1, hr.2, ws_at E.g E.w m5, hcw⟩, by rw [← cd_code hH]; exact E.g.word E.w m5 (goodCd M'), E.g.word E.w m4 rfl, m6, plen m7, va_Nw.use rfl (E.g.nest E.w hl)⟩, E.g.word E.w m2 rfl, trivial⟩
    ⟨PcOf.blind, fun U hU hW => ⟨rfl, wtr E.w hW, by rw [hU]; exact S.1, E.cx⟩⟩ rfl hn S.2.2.1.1 hs (by show 2 * 0 + _ ≤ 8; omega) hd ⟨rm_le S.2.2.2.1 hC.1.1 hm.1, rm_le S.2.2.2.2 hC.1.2 hm.2⟩)
/-- System.arraycopy of ints -/
theorem q_copy {idx a b : Nat} {sp dp n : Int32} (hd : decode (iC M) pc = .ok (.invokestatic idx, 3)) (hl : Cond.methodLink (iY M).cls idx arraycopyName ∈ lw_tbl) (w1 : Cond.native arraycopyName ∈ lw_tbl) (w2 : Cond.static arraycopyName ∈ lw_tbl) (w3 : Cond.initialized "java/lang/System" ∈ lw_tbl) (hka : mK h a = 11) (hkb : mK h b = 11) (h1 : ¬ sp < 0) (h2 : ¬ dp < 0) (h3 : ¬ n < 0) (h4 : sp.toNatClampNeg + n.toNatClampNeg ≤ mL h a) (h5 : dp.toNatClampNeg + n.toNatClampNeg ≤ mL h b)
    (hw : (rest.map fun v => v.category).sum ≤ 8) (hr : 1 ≤ iF M ∧ 40 ≤ iW M) (kk : RQ s0 l M h0 (pc + 3) L rest (cpI h a sp.toNatClampNeg b dp.toNatClampNeg n.toNatClampNeg) Q) : RQ s0 l M h0 pc L (.int n :: .int dp :: .ref b :: .int sp :: .ref a :: rest) h Q := by
  refine lift1 (h' := cpI h a sp.toNatClampNeg b dp.toNatClampNeg n.toNatClampNeg) (fun _ _ k9 => ⟨k9.1, fun p e s m args below meth c E H locs ls S => ?_⟩) kk
  obtain ⟨ca, a1, a2⟩ := S.1.a11 (Or.inl hka)
  obtain ⟨cb, b1, b2⟩ := S.1.a11 (Or.inl hkb)
  have ho := S.1.own (a := b) (by omega) (by omega)
  have nn : ∀ z : Int32, ¬ z < 0 → z.toInt = (z.toNatClampNeg : Int) := by
    intro z hz
    have hz0 : (0 : Int) ≤ z.toInt := by
      have := Int32.not_lt.mp hz
      simpa using Int32.le_iff_toInt_le.mp this
    show z.toInt = ((z.toInt.toNat : Nat) : Int)
    omega
  obtain ⟨a3, ka, hka1, cma, hkka⟩ := State.isArrayOf_alike E.w.alike a2.1
  obtain ⟨b3, kb, hkb1, cmb, hkkb⟩ := State.isArrayOf_alike E.w.alike b2.1
  have hroom : 2 * 0 + (rest.map fun v => v.category).sum + (nativeFrameWords "java/lang/System" "arraycopy" 5 + 11) ≤ iW M := by
    have h9 : nativeFrameWords "java/lang/System" "arraycopy" 5 + 11 ≤ 32 := by decide
    have h8 := hr.2
    omega
  intro T hT X
  obtain ⟨vm', X', step⟩ := X.arraycopy E.1 E.own (E.g.word E.w hl rfl) (E.g.word E.w w1 rfl) (E.g.word E.w w2 rfl) (E.g.word E.w w3 rfl) (src := a) (dst := b) (cs := ca) (cd := cb) (srcPos := sp) (destPos := dp) (n := n) (by rw [hT]; exact a1) (by rw [hT]; exact b1)
    a3 b3 a2.2.1 b2.2.1 hka1 hkb1 hkka hkkb rfl h1 h2 h3
    (by rw [nn sp h1, nn n h3, a2.2.2.1]; omega)
    (by rw [nn dp h2, nn n h3, b2.2.2.1]; omega)
    (fun vm₁ _ i hi => by
      have e9 : ca.slots.getD (sp.toNatClampNeg + i) .null = .int (mI h a (sp.toNatClampNeg + i)) := by
        rw [Array.getD_eq_getD_getElem?, a2.2.2.2.2 _ (by omega)]
        rfl
      rw [e9]
      exact ⟨rfl, trivial⟩)
    (g := F0 m pc ls (.int n :: .int dp :: .ref b :: .int sp :: .ref a :: rest)) rfl (by rw [E.2.2.1]; exact S.2.2.1.1) (rest := rest) rfl (by rw [E.2.1]; exact hd) hr.1 hroom
  have hlb : b < H.size := (Array.getElem?_eq_some_iff.mp b1).1
  obtain ⟨f1, f2, f3⟩ := Cell.storeRun_facts cb dp.toNatClampNeg (ca.stretch sp.toNatClampNeg n.toNatClampNeg)
  have hlen : (ca.stretch sp.toNatClampNeg n.toNatClampNeg).length = n.toNatClampNeg := by simp [Cell.stretch]
  have hrep : Rep s0 (cpI h a sp.toNatClampNeg b dp.toNatClampNeg n.toNatClampNeg) (H.setIfInBounds b (copied ca cb sp dp n)) := by
    refine S.1.upd (a := b) (cell' := copied ca cb sp dp n) ho (by simp [Array.getElem?_setIfInBounds, hlb]) (by simp) (fun q hq => by simp [Array.getElem?_setIfInBounds, Ne.symm hq]) rfl (fun c9 hc9 => ⟨rfl, rfl, fun i => by simp [mI_cpI, hc9], fun i => rfl, fun i => rfl⟩) (fun _ => ?_)
    unfold cOK
    rw [if_pos (Or.inl (by rw [mK_cpI]; exact hkb))]
    refine ⟨?_, by rw [f2]; exact b2.2.1, by rw [f3.1]; exact b2.2.2.1, b2.2.2.2.1, fun j hj => ?_⟩
    · obtain ⟨q1, kk1, q2, q3⟩ := b2.1
      exact ⟨fun k9 => by rw [f2]; exact q1 k9, kk1, by rw [f1]; exact q2, q3⟩
    · rw [Cell.storeRun_get _ _ _ _ (by rw [hlen, b2.2.2.1]; exact h5), hlen]
      show _ = some (Value.int (mI (cpI h a sp.toNatClampNeg b dp.toNatClampNeg n.toNatClampNeg) b j))
      rw [mI_cpI]
      by_cases hj9 : dp.toNatClampNeg ≤ j ∧ j < dp.toNatClampNeg + n.toNatClampNeg
      · rw [if_pos hj9, if_pos ⟨rfl, hj9⟩]
        unfold Cell.stretch
        rw [List.getElem?_map, List.getElem?_range (by omega)]
        simp only [Option.map_some]
        rw [Array.getD_eq_getD_getElem?, a2.2.2.2.2 _ (by omega)]
        rfl
      · rw [if_neg hj9, if_neg (fun z => hj9 z.2)]
        exact b2.2.2.2.2 j hj
  have hloc : ∀ q ∈ locs ++ (ca.stretch sp.toNatClampNeg n.toNatClampNeg).zipIdx.map (fun q => (⟨b, dp.toNatClampNeg + q.2⟩ : Loc)), frOf s0 q.base := fun q hq => by
    rcases List.mem_append.mp hq with h9 | h9
    · exact S.2.1 q h9
    · obtain ⟨z, -, hz⟩ := List.mem_map.mp h9
      rw [← hz]
      exact ho
  obtain ⟨t, t1, t2⟩ := k9.2 p e s m args below meth c E (H.setIfInBounds b (copied ca cb sp dp n)) _ ls ⟨hrep, hloc, S.2.2⟩ ((T.setVm vm').setCell b (copied ca cb sp dp n)) (by rw [← hT]; rfl) X'
  exact ⟨t, step t t1, t2⟩
end Rules
