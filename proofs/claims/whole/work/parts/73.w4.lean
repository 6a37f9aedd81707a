/-! ===== the law from its first instruction ===== -/
def S0 (s0 : State) (sc n : Nat) (f : Nat → Int32) (h : Mem) : Prop := (sA s0 0 < mN h ∧ sA s0 1 < mN h ∧ sA s0 2 < mN h ∧ sc < mN h) ∧ (mK h (sA s0 0) = 21 ∧ mL h (sA s0 0) = 64 ∧ ∀ j, j < 64 → mI h (sA s0 0) j = nI (zzT j)) ∧ (mK h (sA s0 1) = 21 ∧ mL h (sA s0 1) = 64 ∧ ∀ j, j < 64 → mI h (sA s0 1) j = cosT j) ∧ WV s0 h ∧ (mK h sc = 21 ∧ mL h sc = n ∧ ∀ j, j < n → mI h sc j = f j)
theorem ptN_0 (b : Nat) : ptN (g00 b) = 2388 := by
  have e : ptN (g00 b) = ptN (g00 0) := rfl
  rw [e]
  decide +kernel
theorem ptU_0 (b : Nat) : ptU (g00 b) = 3462564 := by
  have e : ptU (g00 b) = ptU (g00 0) := rfl
  rw [e]
  decide +kernel
theorem al_00 {b i : Nat} (h : al (g00 b) i) : i < 13 ∨ (20 ≤ i ∧ i < 47) := h
theorem gA0_rg {b i : Nat} (hi : i < 13 ∨ (20 ≤ i ∧ i < 47)) : b ≤ gA0 b i ∧ gA0 b i < b + 40 := by
  unfold gA0 t0
  rcases hi with hi | hi
  · rw [if_pos (by omega)]
    split <;> omega
  · rw [if_neg (by omega)]
    have h1 : nOf ((i - 20) % 9) < 9 := by
      have h2 : ∀ r, r < 9 → nOf r < 9 := by decide
      exact h2 _ (Nat.mod_lt _ (by decide))
    omega
theorem cel.sm {h h' : Mem} {g : Gh} {κ : Sg} {i : Nat} (x : cel h g κ i) (s : Sm h h' (gA g i)) : cel h' g κ i := ⟨s.1.trans x.1, s.2.1.trans x.2.1, fun j => (s.2.2.1 j).trans (x.2.2.1 j), fun j => (s.2.2.2.1 j).trans (x.2.2.2 j)⟩
theorem MI9.sm {m : Nat} {h h' : Mem} (x : MI9 m h) (s : ∀ y, m ≤ y → y < m + 15 → Sm h h' y) : MI9 m h' := ⟨x.1.sm (s m (by omega) (by omega)), fun k hk hz => (x.2 k hk hz).sm (s _ (by omega) (by have := aOff_lt k hk; omega))⟩
theorem LJ_new {s0 : State} {sc n b : Nat} {f : Nat → Int32} {h h2 h4 h5 : Mem} (x : S0 s0 sc n f h) (hb : mN h = b) (s2 : ∀ y, y < b → Sm h h2 y) (x2 : XI b h2) (s4 : ∀ y, y < b + 40 → Sm h2 h4 y) (x4 : MI9 (b + 40) h4) (s5 : ∀ y, y < b + 55 → Sm h4 h5 y) (n5 : mN h5 = b + 56) (k5 : mK h5 (b + 55) = 13) (l5 : mL h5 (b + 55) = 1) : LJ s0 (b, b + 40, mN h5 + 2388, mU h5 + 3462564) sc n f (g00 b) κ00 sg0 h5 := by
  obtain ⟨⟨a0, a1, a2, a3⟩, ⟨z1, z2, z3⟩, ⟨c1, c2, c3⟩, ⟨w1, w2, w3⟩, t1, t2, t3⟩ := x
  have sT : ∀ y, y < b → Sm h h5 y := fun y hy => (s2 y hy).trans ((s4 y (by omega)).trans (s5 y (by omega)))
  have sX : ∀ y, y < b + 40 → Sm h2 h5 y := fun y hy => (s4 y (by omega)).trans (s5 y (by omega))
  obtain ⟨q1, q2, q3, -⟩ := sT (sA s0 0) (by omega)
  obtain ⟨q4, q5, q6, -⟩ := sT (sA s0 1) (by omega)
  obtain ⟨q7, q8, q9, -⟩ := sT (sA s0 2) (by omega)
  obtain ⟨q10, q11, q12, -⟩ := sT sc (by omega)
  have hw : WV s0 h5 := ⟨q7.trans w1, q8.trans w2, fun j hj => (q9 j).trans (w3 j hj)⟩
  refine ⟨⟨⟨⟨⟨by rw [hb] at a0; exact a0, by rw [hb] at a1; exact a1⟩, ⟨q1.trans z1, q2.trans z2, fun j hj => (q3 j).trans (z3 j hj)⟩, q4.trans c1, q5.trans c2, fun j hj => (q6 j).trans (c3 j hj)⟩, ?_, ?_, ?_, ?_⟩, ?_⟩, ?_, ?_, ?_, ?_, ?_⟩
  · exact ⟨⟨show 0 < 3 by decide, show 1 < 3 by decide, show 2 < 3 by decide, show 0 ≠ 1 by decide, show 0 ≠ 2 by decide, show 1 ≠ 2 by decide⟩, show 0 ≤ 20 by decide⟩
  · exact fun i j hi hj e => gA0_inj (al_00 hi) (al_00 hj) e
  · intro i hi
    have hi := al_00 hi
    obtain ⟨r1, r2⟩ := gA0_rg (b := b) hi
    exact ⟨⟨r1, Or.inl r2, by rw [n5]; exact Nat.lt_of_lt_of_le r2 (by omega)⟩, (x2.cel hi).sm (sX _ r2)⟩
  · exact ⟨by show b ≤ b + 40; omega, by rw [n5]; show b + 40 + 16 ≤ b + 56; omega⟩
  · unfold bud
    rw [ptN_0, ptU_0]
    exact ⟨Nat.le_add_right _ _, Nat.le_add_right _ _⟩
  · exact MI9.rep (x4.sm (fun y h1 h2 => s5 y (by omega))) hw
  · exact ⟨q10.trans t1, q11.trans t2, fun j hj => (q12 j).trans (t3 j hj)⟩
  · exact ⟨k5, l5⟩
  · exact ⟨by show sc < b; omega, by show sA s0 2 < b; omega⟩
  · rfl
theorem w_all {s0 : State} {l : Launch} {sc n b : Nat} {f : Nat → Int32} {h : Mem} (hn : n ≤ 3072) (hb : mN h = b) (x : S0 s0 sc n f h) : RQ s0 l M_W_law h 0 (ent [.ref sc] (iL M_W_law)) [] h (fun o hE => o = .inl (some (.int 1)) ∧ mN hE ≤ mN h + 2956 ∧ mU hE ≤ mU h + 3647535) := by
  refine q_new (ci := 6) d_W_law_0 (by decide) cW_8 ?_
  refine q_dup d_W_law_3 rfl ?_
  rw [hb]
  have n1 : mN (nw h 7 0 3) = b + 1 := by rw [mN_nw, hb]
  have u1 : mU (nw h 7 0 3) = mU h + 3 := rfl
  have a1 : At (nw h 7 0 3) b 7 0 Z0 N0 := hb ▸ At.new h 7 0 3
  have s1 : ∀ y, y < b → Sm h (nw h 7 0 3) y := fun y hy => Sm.nw (by omega)
  refine q_callI (As := []) (Q1 := fun h1 => (mN h1 = b + 40 ∧ mU h1 = mU (nw h 7 0 3) + 4252) ∧ (∀ x, x < b → Sm (nw h 7 0 3) h1 x) ∧ XI b h1) d_W_law_4 lW_19 mc_X_init rfl rfl rfl rfl (Nat.le_of_ble_eq_true rfl) (by decide) (q_X_init (h := nw h 7 0 3) (b := b) n1 a1) (fun h2 p2 => ?_)
  obtain ⟨⟨n2, u2⟩, s2, x2⟩ := p2
  have s2 : ∀ y, y < b → Sm h h2 y := fun y hy => (s1 y hy).trans (s2 y hy)
  have u2 : mU h2 = mU h + 4255 := by omega
  refine q_astore_n d_W_law_7 rfl (Nat.le_of_ble_eq_true rfl) ?_
  refine q_new (ci := 7) d_W_law_8 (by decide) cW_20 ?_
  refine q_dup d_W_law_11 rfl ?_
  rw [n2]
  have n3 : mN (nw h2 8 0 43) = b + 40 + 1 := by rw [mN_nw, n2]
  have u3 : mU (nw h2 8 0 43) = mU h2 + 43 := rfl
  have a3 : At (nw h2 8 0 43) (b + 40) 8 0 Z0 N0 := n2 ▸ At.new h2 8 0 43
  have s3 : ∀ y, y < b + 40 → Sm h2 (nw h2 8 0 43) y := fun y hy => Sm.nw (by omega)
  refine q_callI (As := []) (Q1 := fun h1 => (mN h1 = b + 40 + 15 ∧ mU h1 = mU (nw h2 8 0 43) + 177600) ∧ (∀ x, x < b + 40 → Sm (nw h2 8 0 43) h1 x) ∧ MI9 (b + 40) h1) d_W_law_12 lW_22 mc_M_init rfl rfl rfl rfl (Nat.le_of_ble_eq_true rfl) (by decide) (q_M_init (h := nw h2 8 0 43) (m := b + 40) n3 a3) (fun h4 p4 => ?_)
  obtain ⟨⟨n4, u4⟩, s4, x4⟩ := p4
  have s4 : ∀ y, y < b + 40 → Sm h2 h4 y := fun y hy => (s3 y hy).trans (s4 y hy)
  have u4 : mU h4 = mU h + 181898 := by omega
  have n4 : mN h4 = b + 55 := by omega
  refine q_astore_n d_W_law_15 rfl (Nat.le_of_ble_eq_true rfl) ?_
  refine q_iconst (v := nI 1) d_W_law_16 (by decide) ?_
  refine q_newarray (kd := 13) d_W_law_17 rfl (by decide) w_along (by decide) (by decide) ?_
  rw [show (nI 1).toNatClampNeg = 1 by decide]
  rw [n4]
  have n5 : mN (nw h4 13 1 1) = b + 56 := by rw [mN_nw, n4]
  have u5 : mU (nw h4 13 1 1) = mU h + 181899 := by rw [mU_nw, u4]
  have a5 := At.new h4 13 1 1
  rw [n4] at a5
  have s5 : ∀ y, y < b + 55 → Sm h4 (nw h4 13 1 1) y := fun y hy => Sm.nw (by omega)
  generalize nw h4 13 1 1 = h5 at n5 u5 a5 s5 ⊢
  refine q_astore_n d_W_law_19 rfl (Nat.le_of_ble_eq_true rfl) ?_
  refine q_iconst (v := nI 0) d_W_law_20 (by decide) ?_
  refine q_istore d_W_law_21 (Nat.le_of_ble_eq_true rfl) ?_
  have hJ := LJ_new x hb s2 x2 s4 x4 s5 n5 a5.1 a5.2.1
  refine RQ.mono (w_loop (y5 := none) (y6 := none) hn 512 0 (g00 b) κ00 sg0 h5 (by omega) (Nat.zero_le _) hJ (RL.new b) (Nat.le_refl _)) (fun o hE q => ?_)
  obtain ⟨q1, q2, q3⟩ := q
  refine ⟨q1, ?_, ?_⟩
  · have q2 : mN hE ≤ mN h5 + 2388 + 512 := q2
    omega
  · have q3 : mU hE ≤ mU h5 + 3462564 + 3072 := q3
    omega

