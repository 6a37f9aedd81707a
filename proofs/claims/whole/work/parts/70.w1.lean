/-! ===== the law: class and reference beside each other ===== -/
theorem q_catchW {s0 : State} {l : Launch} {M : MI} {h0 h : Mem} {pc : Nat} {L : List (Option Value)} {Q : Out → Mem → Prop} {E0 nm : String} {x : ExceptionTableEntry} {i : Nat} (hone : tableOf (iH M) = [x]) (hx : covers x pc = true) (hc0 : x.catchType ≠ 0) (hl : Cond.classLink (iY M).cls x.catchType nm ∈ lw_tbl) (hcast : Cond.castable E0 nm ∈ lw_tbl) (hd : decode (iC M) x.handlerPc = .ok (.astore i, 2)) (hn : i < L.length)
    (k : RQ s0 l M h0 (x.handlerPc + 2) (L.set i none) [] h Q) : RQX s0 l M h0 pc L E0 h Q := by
  obtain ⟨o, hE, k, b⟩ := k
  refine ⟨o, hE, ⟨k.1, fun p e s m args below meth c E H locs ls st q ce S h1 h2 h3 => ?_⟩, b⟩
  have g := E.2.2.2.2.2.2.2.2.2.2.2.2.1
  have hW := E.2.2.2.2.2.2.2.2.1
  refine xh_catch E.2.2.2.1 x (by rw [E.2.2.2.2.2.2.2.1]; exact hone) hx hc0 (g.word hW hl rfl) (g.cast hW hcast) h1 h2 h3 ?_
  exact lv_astore E.1 E.2.1 hd S.2.2.1.has (S.2.2.1.lt hn) rfl (fun ls9 h9 => k.2 p e s m args below meth c E H locs ls9 ⟨S.1, S.2.1, (S.2.2.1.st rfl h9).drop, S.2.2.2⟩)
theorem MRep.c {s0 : State} {c : Cx} {h h' : Mem} {σ : Sg} (x : MRep s0 h c.2.1 σ) (f : frc c h h') (hs : sA s0 2 < c.1) : MRep s0 h' c.2.1 σ := by
  obtain ⟨⟨w1, w2, w3⟩, x1, x2, x3⟩ := x
  obtain ⟨s1, s2, s3, -⟩ := f (sA s0 2) (Or.inl hs)
  have fm : ∀ k, k < 15 → mK h' (c.2.1 + k) = mK h (c.2.1 + k) ∧ mL h' (c.2.1 + k) = mL h (c.2.1 + k) ∧ (∀ j, mI h' (c.2.1 + k) j = mI h (c.2.1 + k) j) ∧ (∀ j, mR h' (c.2.1 + k) j = mR h (c.2.1 + k) j) ∧ ∀ j, mJ h' (c.2.1 + k) j = mJ h (c.2.1 + k) j := fun k hk => f _ (Or.inr ⟨by omega, by omega⟩)
  refine ⟨⟨s1.trans w1, s2.trans w2, fun j hj => (s3 j).trans (w3 j hj)⟩, (fm 0 (by decide)).1.trans x1, fun k hk hz => ((fm 0 (by decide)).2.2.1 k).trans (x2 k hk hz), fun k hk hz => ?_⟩
  obtain ⟨y1, y2, y3, y4⟩ := x3 k hk hz
  obtain ⟨z1, z2, z3, z4, -⟩ := fm (aOff k) (aOff_lt k hk)
  exact ⟨((fm 0 (by decide)).2.2.2.1 k).trans y1, z1.trans y2, z2.trans y3, fun j hj => (z3 j).trans (y4 j hj)⟩
theorem CRep.m {s0 : State} {c : Cx} {h h' : Mem} {g : Gh} {κ : Sg} (x : CRep s0 c h g κ) (f : ∀ a, (a < c.2.1 ∨ c.2.1 + 16 ≤ a) → mK h' a = mK h a ∧ mL h' a = mL h a ∧ (∀ j, mI h' a j = mI h a j) ∧ ∀ j, mR h' a j = mR h a j) (hN : mN h' = mN h) (hU : mU h' = mU h) : CRep s0 c h' g κ := by
  obtain ⟨⟨⟨⟨w0, w1⟩, ⟨w2, w3, w4⟩, w5, w6, w7⟩, x2, x3, x4, x5⟩, x6, x7⟩ := x
  obtain ⟨s1, s2, s3, -⟩ := f (sA s0 0) (Or.inl (by omega))
  obtain ⟨t1, t2, t3, -⟩ := f (sA s0 1) (Or.inl (by omega))
  refine ⟨⟨⟨⟨w0, w1⟩, ⟨s1.trans w2, s2.trans w3, fun j hj => (s3 j).trans (w4 j hj)⟩, t1.trans w5, t2.trans w6, fun j hj => (t3 j).trans (w7 j hj)⟩, x2, x3, fun i hi => ?_, x5.1, by rw [hN]; exact x5.2⟩, by rw [hN]; exact x6, by rw [hU]; exact x7⟩
  obtain ⟨a1, a2, a3, a4, a5⟩ := x4 i hi
  obtain ⟨f1, f2, f3, f4⟩ := f (gA g i) (by have := a1.2.1; omega)
  exact ⟨⟨a1.1, a1.2.1, by rw [hN]; exact a1.2.2⟩, f1.trans a2, f2.trans a3, fun j => (f3 j).trans (a4 j), fun j => (f4 j).trans (a5 j)⟩
def LJ (s0 : State) (c : Cx) (sc n : Nat) (f : Nat → Int32) (g : Gh) (κ σ : Sg) (h : Mem) : Prop := CRep s0 c h g κ ∧ MRep s0 h c.2.1 σ ∧ (mK h sc = 21 ∧ mL h sc = n ∧ ∀ j, j < n → mI h sc j = f j) ∧ (mK h (c.2.1 + 15) = 13 ∧ mL h (c.2.1 + 15) = 1) ∧ (sc < c.1 ∧ sA s0 2 < c.1) ∧ gA g 0 = c.1
theorem LJ.c {s0 : State} {c : Cx} {sc n : Nat} {f : Nat → Int32} {g g' : Gh} {κ κ' σ : Sg} {h h' : Mem} (x : LJ s0 c sc n f g κ σ h) (y : CF s0 c h h' g' κ') (hg : gA g' 0 = gA g 0) : LJ s0 c sc n f g' κ' σ h' := by
  obtain ⟨x1, x2, ⟨x3, x4, x5⟩, ⟨x6, x7⟩, x8, x9⟩ := x
  obtain ⟨s1, s2, s3, -⟩ := y.2 sc (Or.inl x8.1)
  obtain ⟨t1, t2, -⟩ := y.2 (c.2.1 + 15) (Or.inr ⟨by omega, by omega⟩)
  exact ⟨y.1, x2.c y.2 x8.2, ⟨s1.trans x3, s2.trans x4, fun j hj => (s3 j).trans (x5 j hj)⟩, ⟨t1.trans x6, t2.trans x7⟩, x8, hg.trans x9⟩
theorem LJ.m {s0 : State} {c : Cx} {sc n : Nat} {f : Nat → Int32} {g : Gh} {κ σ σ' : Sg} {h h' : Mem} (x : LJ s0 c sc n f g κ σ h) (y : MF s0 h h' c.2.1 σ') : LJ s0 c sc n f g κ σ' h' := by
  obtain ⟨x1, x2, ⟨x3, x4, x5⟩, ⟨x6, x7⟩, x8, x9⟩ := x
  have hb : c.1 ≤ c.2.1 := x1.1.2.2.2.2.1
  obtain ⟨s1, s2, s3, -⟩ := y.2.2.2 sc (Or.inl (by omega))
  obtain ⟨t1, t2, -⟩ := y.2.2.2 (c.2.1 + 15) (Or.inr (Nat.le_refl _))
  exact ⟨x1.m (fun a ha => by
    obtain ⟨q1, q2, q3, q4, -⟩ := y.2.2.2 a (by omega)
    exact ⟨q1, q2, q3, q4⟩) y.2.1 y.2.2.1, y.1, ⟨s1.trans x3, s2.trans x4, fun j hj => (s3 j).trans (x5 j hj)⟩, ⟨t1.trans x6, t2.trans x7⟩, x8, x9⟩
theorem LJ.j {s0 : State} {c : Cx} {sc n : Nat} {f : Nat → Int32} {g : Gh} {κ σ : Sg} {h : Mem} {v : Int64} (x : LJ s0 c sc n f g κ σ h) : LJ s0 c sc n f g κ σ (sJ h (c.2.1 + 15) 0 v) := by
  obtain ⟨x1, x2, x3, x4, x8, x9⟩ := x
  exact ⟨x1.m (fun a ha => ⟨rfl, rfl, fun _ => rfl, fun _ => rfl⟩) rfl rfl, x2, x3, x4, x8, x9⟩
theorem LJ.k {s0 : State} {c : Cx} {sc n : Nat} {f : Nat → Int32} {g : Gh} {κ σ : Sg} {h : Mem} (x : LJ s0 c sc n f g κ σ h) : mK h c.1 = 7 ∧ mK h c.2.1 = 8 := by
  have h0 := (x.1.1.2.2.2.1 0 (al_0 (by decide))).2.1
  rw [x.2.2.2.2.2] at h0
  exact ⟨h0, x.2.1.2.1⟩
/-- look and shown of the law: what they leave -/
def LK (s0 : State) (c : Cx) (sc n : Nat) (f : Nat → Int32) (g : Gh) (κ σ : Sg) (r : Int32 × Sg) (o : Out) (h' : Mem) : Prop := (r.2 0 0 = nI 0 ∧ o = .inl (some (.int (nI 0))) ∧ LJ s0 c sc n f g κ σ h' ∧ mJ h' (c.2.1 + 15) 0 = r.1.toInt64) ∨ (r.2 0 0 = nI 1 ∧ o = .inl (some (.int (nI 1))) ∧ LJ s0 c sc n f (gx g) κ σ h')

theorem w_look {s0 : State} {l : Launch} {c : Cx} {sc n : Nat} {f : Nat → Int32} {g : Gh} {κ σ : Sg} {h : Mem} {w : Int32} (x : LJ s0 c sc n f g κ σ h) (hr : RL g κ σ) : CQ s0 l M_W_look [.ref c.1, .int w, .ref (c.2.1 + 15)] h (LK s0 c sc n f g κ σ (fLk σ w)) := by
  refine c_inH (by decide) (by decide) rfl (Nat.le_of_ble_eq_true rfl) ?_
  have hx := x_look (s0 := s0) (l := l) (c := c) (w := w) hr h x.1
  rw [x.2.2.2.2.2] at hx
  refine q_aload_n d_W_look_0 rfl rfl ?_
  refine q_iconst (v := nI 0) d_W_look_1 (by decide) ?_
  refine q_aload_n d_W_look_2 rfl rfl ?_
  refine q_iload_n d_W_look_3 rfl rfl ?_
  refine q_callV (As := [_]) d_W_look_4 lW_7 mv_X_look rfl x.k.1 rfl rfl (Nat.le_of_ble_eq_true rfl) (by decide) hx (fun v h1 q => ?_) (fun E h1 q => ?_)
  · obtain ⟨g', κ', y, rfl, z⟩ := q
    obtain ⟨z1, z2, z3⟩ := z.resolve_right (fun z => nomatch z.2.1)
    obtain rfl := Sum.inl.inj z2
    obtain rfl := z3.symm
    have x1 := x.c y rfl
    refine q_i2l d_W_look_7 ?_
    refine q_lastore d_W_look_8 x1.2.2.2.1.1 (by rw [x1.2.2.2.1.2]; exact vp_in_nI (show 0 < 1 by decide) (by decide)) ?_
    refine q_goto (tgt := 15) d_W_look_9 (by decide) ?_
    refine q_iconst (v := nI 0) d_W_look_15 (by decide) ?_
    refine q_iret d_W_look_16 rfl rfl ?_
    exact Or.inl ⟨z1, rfl, x1.j, by show (if c.2.1 + 15 = c.2.1 + 15 ∧ 0 = (nI 0).toNatClampNeg then _ else _) = _; rw [if_pos ⟨rfl, rfl⟩]⟩
  · obtain ⟨g', κ', y, rfl, z⟩ := q
    obtain ⟨z1, z2, z3⟩ := z.resolve_left (fun z => nomatch z.2.1)
    obtain rfl := Sum.inr.inj z2
    obtain rfl := z3
    have x1 := x.c y rfl
    refine q_catch (x := ⟨0, 9, 12, 13⟩) rfl (by decide) (by decide) cW_13 w_castNSE d_W_look_12 rfl (Nat.le_of_ble_eq_true rfl) ?_
    refine q_iconst (v := nI 1) d_W_look_13 (by decide) ?_
    refine q_iret d_W_look_14 rfl rfl ?_
    exact Or.inr ⟨z1, rfl, x1⟩
theorem w_shown {s0 : State} {l : Launch} {c : Cx} {sc n : Nat} {f : Nat → Int32} {g : Gh} {κ σ : Sg} {h : Mem} {k w : Int32} (x : LJ s0 c sc n f g κ σ h) (hr : RL g κ σ) : CQ s0 l M_W_shown [.ref c.1, .int k, .int w, .ref (c.2.1 + 15)] h (LK s0 c sc n f g κ σ (fShn σ k w)) := by
  refine c_inH (by decide) (by decide) rfl (Nat.le_of_ble_eq_true rfl) ?_
  have hx := x_shown (s0 := s0) (l := l) (c := c) (k := k) (w := w) hr h x.1
  rw [x.2.2.2.2.2] at hx
  refine q_aload_n d_W_shown_0 rfl rfl ?_
  refine q_iconst (v := nI 0) d_W_shown_1 (by decide) ?_
  refine q_aload_n d_W_shown_2 rfl rfl ?_
  refine q_iload_n d_W_shown_3 rfl rfl ?_
  refine q_iload_n d_W_shown_4 rfl rfl ?_
  refine q_callV (As := [_, _]) d_W_shown_5 lW_15 mv_X_shown rfl x.k.1 rfl rfl (Nat.le_of_ble_eq_true rfl) (by decide) hx (fun v h1 q => ?_) (fun E h1 q => ?_)
  · obtain ⟨g', κ', y, rfl, z⟩ := q
    obtain ⟨z1, z2, z3⟩ := z.resolve_right (fun z => nomatch z.2.1)
    obtain rfl := Sum.inl.inj z2
    obtain rfl := z3.symm
    have x1 := x.c y rfl
    refine q_i2l d_W_shown_8 ?_
    refine q_lastore d_W_shown_9 x1.2.2.2.1.1 (by rw [x1.2.2.2.1.2]; exact vp_in_nI (show 0 < 1 by decide) (by decide)) ?_
    refine q_goto (tgt := 17) d_W_shown_10 (by decide) ?_
    refine q_iconst (v := nI 0) d_W_shown_17 (by decide) ?_
    refine q_iret d_W_shown_18 rfl rfl ?_
    exact Or.inl ⟨z1, rfl, x1.j, by show (if c.2.1 + 15 = c.2.1 + 15 ∧ 0 = (nI 0).toNatClampNeg then _ else _) = _; rw [if_pos ⟨rfl, rfl⟩]⟩
  · obtain ⟨g', κ', y, rfl, z⟩ := q
    obtain ⟨z1, z2, z3⟩ := z.resolve_left (fun z => nomatch z.2.1)
    obtain rfl := Sum.inr.inj z2
    obtain rfl := z3
    have x1 := x.c y rfl
    refine q_catchW (x := ⟨0, 10, 13, 13⟩) rfl (by decide) (by decide) cW_13 w_castNSE d_W_shown_13 (Nat.le_of_ble_eq_true rfl) ?_
    refine q_iconst (v := nI 1) d_W_shown_15 (by decide) ?_
    refine q_iret d_W_shown_16 rfl rfl ?_
    exact Or.inr ⟨z1, rfl, x1⟩

