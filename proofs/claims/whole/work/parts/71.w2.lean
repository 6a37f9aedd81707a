/-! ===== the law's loop ===== -/
def LQ (c : Cx) (o : Out) (h : Mem) : Prop := o = .inl (some (.int 1)) ∧ mN h ≤ c.2.2.1 + 512 ∧ mU h ≤ c.2.2.2 + 3072
theorem w_ld {s0 : State} {l : Launch} {h0 h : Mem} {pc sc n i k : Nat} {f : Nat → Int32} {kz : Int} {Lc : List (Option Value)} {st : List Value} {Q : Out → Mem → Prop} (d0 : decode (iC M_W_law) pc = .ok (.aload_n 0, 1)) (d1 : decode (iC M_W_law) (pc + 1) = .ok (.iload 4, 2)) (d2 : decode (iC M_W_law) (pc + 1 + 2) = .ok (.iconst kz, 1)) (hv : Int32.ofInt kz = nI k) (d3 : decode (iC M_W_law) (pc + 1 + 2 + 1) = .ok (.iadd, 1)) (d4 : decode (iC M_W_law) (pc + 1 + 2 + 1 + 1) = .ok (.iaload, 1)) (hS : mK h sc = 21 ∧ mL h sc = n ∧ ∀ j, j < n → mI h sc j = f j) (hi : i + k < n) (hn : n ≤ 3072) (l0 : Lc[0]? = some (some (.ref sc))) (l4 : Lc[4]? = some (some (.int (nI i)))) (kk : RQ s0 l M_W_law h0 (pc + 1 + 2 + 1 + 1 + 1) Lc (.int (f (i + k)) :: st) h Q) : RQ s0 l M_W_law h0 pc Lc st h Q := by
  refine q_aload_n d0 rfl l0 ?_
  refine q_iload d1 l4 ?_
  refine q_iconst (v := nI k) d2 hv ?_
  refine q_iadd d3 ?_
  rw [nI_add]
  refine q_iaload d4 (Or.inr hS.1) (by rw [hS.2.1]; exact vp_in_nI hi (by omega)) ?_
  rw [nI_clamp (by omega), hS.2.2 _ hi]
  exact kk
theorem lk_q {σ : Sg} {w : Int32} : ∃ v, (fLk σ w).2 = su σ 0 0 v := by
  unfold fLk
  split
  · exact ⟨_, rfl⟩
  · split
    · exact ⟨_, rfl⟩
    · exact ⟨_, rfl⟩
theorem shn_q {σ : Sg} {k w : Int32} : ∃ v, (fShn σ k w).2 = su σ 0 0 v := by
  unfold fShn
  split
  · split
    · exact ⟨_, rfl⟩
    · split
      · exact ⟨_, rfl⟩
      · exact ⟨_, rfl⟩
  · exact ⟨_, rfl⟩
theorem lcmp_0 (x : Int64) : lg_cmp x x = 0 := by
  unfold lg_cmp
  simp
/-- on to the next call -/
def NX (s0 : State) (l : Launch) (h0 : Mem) (c : Cx) (sc n : Nat) (f : Nat → Int32) (i : Nat) (gx9 : Nat) : Prop := ∀ (g : Gh) (κ σ : Sg) (h : Mem) (y5 y6 : Option Value), LJ s0 c sc n f g κ σ h → RL g κ σ → gX g ≤ gx9 + 1 → RQ s0 l M_W_law h0 475 [some (.ref sc), some (.ref c.1), some (.ref c.2.1), some (.ref (c.2.1 + 15)), some (.int (nI (i))), y5, y6] [] h (LQ c)

theorem w_feed {s0 : State} {l : Launch} {h0 : Mem} {c : Cx} {sc n i : Nat} {f : Nat → Int32} {g : Gh} {κ σ : Sg} {h : Mem} {y5 y6 : Option Value} (hn : n ≤ 3072) (hi : i + 6 ≤ n) (x : LJ s0 c sc n f g κ σ h) (hr : RL g κ σ) (nx : NX s0 l h0 c sc n f i (gX g)) : RQ s0 l M_W_law h0 92 [some (.ref sc), some (.ref c.1), some (.ref c.2.1), some (.ref (c.2.1 + 15)), some (.int (nI (i))), y5, y6] [] h (LQ c) := by
  obtain ⟨tb, -, h2, htb, -⟩ := hr.2.1
  have hx := x_feed (s0 := s0) (l := l) (c := c) (a := f (i + 1)) (b := f (i + 2)) (c' := f (i + 3)) (d := f (i + 4)) (e := f (i + 5)) hr h2 htb h x.1
  rw [x.2.2.2.2.2] at hx
  refine q_aload_n d_W_law_92 rfl rfl ?_
  refine w_ld (k := 1) d_W_law_93 d_W_law_94 d_W_law_96 (by decide) d_W_law_97 d_W_law_98 x.2.2.1 (by omega) hn rfl rfl ?_
  refine w_ld (k := 2) d_W_law_99 d_W_law_100 d_W_law_102 (by decide) d_W_law_103 d_W_law_104 x.2.2.1 (by omega) hn rfl rfl ?_
  refine w_ld (k := 3) d_W_law_105 d_W_law_106 d_W_law_108 (by decide) d_W_law_109 d_W_law_110 x.2.2.1 (by omega) hn rfl rfl ?_
  refine w_ld (k := 4) d_W_law_111 d_W_law_112 d_W_law_114 (by decide) d_W_law_115 d_W_law_116 x.2.2.1 (by omega) hn rfl rfl ?_
  refine w_ld (k := 5) d_W_law_117 d_W_law_118 d_W_law_120 (by decide) d_W_law_121 d_W_law_122 x.2.2.1 (by omega) hn rfl rfl ?_
  refine q_callV (As := [_, _, _, _, _]) d_W_law_123 lW_23 mv_X_feed rfl x.k.1 rfl rfl (Nat.le_of_ble_eq_true rfl) (by decide) hx (fun v h1 q => ?_) (fun E h1 q => ?_)
  · obtain ⟨g1, κ1, y, z⟩ := q
    obtain ⟨z1, z2, z3⟩ := z
    obtain rfl := Sum.inl.inj z1
    obtain rfl := z2.symm
    have x1 := x.c y rfl
    have hgx : gX g ≤ gX g + 1 := by omega
    refine q_aload_n d_W_law_126 rfl rfl ?_
    refine w_ld (k := 1) d_W_law_127 d_W_law_128 d_W_law_130 (by decide) d_W_law_131 d_W_law_132 x1.2.2.1 (by omega) hn rfl rfl ?_
    refine w_ld (k := 2) d_W_law_133 d_W_law_134 d_W_law_136 (by decide) d_W_law_137 d_W_law_138 x1.2.2.1 (by omega) hn rfl rfl ?_
    refine w_ld (k := 3) d_W_law_139 d_W_law_140 d_W_law_142 (by decide) d_W_law_143 d_W_law_144 x1.2.2.1 (by omega) hn rfl rfl ?_
    refine w_ld (k := 4) d_W_law_145 d_W_law_146 d_W_law_148 (by decide) d_W_law_149 d_W_law_150 x1.2.2.1 (by omega) hn rfl rfl ?_
    refine w_ld (k := 5) d_W_law_151 d_W_law_152 d_W_law_154 (by decide) d_W_law_155 d_W_law_156 x1.2.2.1 (by omega) hn rfl rfl ?_
    refine q_callV (As := [_, _, _, _, _]) d_W_law_157 lW_27 mv_M_feed rfl x1.k.2 rfl rfl (Nat.le_of_ble_eq_true rfl) (by decide) (m_feed (s0 := s0) (l := l) ⟨h2, htb⟩ h1 x1.2.1) (fun v2 h2 q2 => ?_) (fun E h2 q2 => ?_)
    · obtain ⟨r9, σ9, e9, y9, z9, z10⟩ := q2
      obtain rfl := Sum.inl.inj e9
      obtain rfl := z9
      obtain rfl := z10
      have x2 := x1.m y9
      refine q_icmp_eq (tgt := 475) d_W_law_160 (by decide) (fun _ => ?_) (fun c9 => absurd rfl c9)
      exact nx _ _ _ _ _ _ x2 z3 hgx
    · obtain ⟨r9, σ9, e9, -⟩ := q2
      exact nomatch e9
  · obtain ⟨g1, κ1, y, z⟩ := q
    exact nomatch z.1

theorem w_end {s0 : State} {l : Launch} {h0 : Mem} {c : Cx} {sc n i : Nat} {f : Nat → Int32} {g : Gh} {κ σ : Sg} {h : Mem} {y5 y6 : Option Value} (hn : n ≤ 3072) (hi : i + 6 ≤ n) (x : LJ s0 c sc n f g κ σ h) (hr : RL g κ σ) (nx : NX s0 l h0 c sc n f i (gX g)) : RQ s0 l M_W_law h0 165 [some (.ref sc), some (.ref c.1), some (.ref c.2.1), some (.ref (c.2.1 + 15)), some (.int (nI (i))), y5, y6] [] h (LQ c) := by
  obtain ⟨tb, -, h2, htb, -⟩ := hr.2.1
  have hx := x_end (s0 := s0) (l := l) (c := c) (n := f (i + 1)) hr h2 htb h x.1
  rw [x.2.2.2.2.2] at hx
  refine q_aload_n d_W_law_165 rfl rfl ?_
  refine w_ld (k := 1) d_W_law_166 d_W_law_167 d_W_law_169 (by decide) d_W_law_170 d_W_law_171 x.2.2.1 (by omega) hn rfl rfl ?_
  refine q_callV (As := [_]) d_W_law_172 lW_28 mv_X_end rfl x.k.1 rfl rfl (Nat.le_of_ble_eq_true rfl) (by decide) hx (fun v h1 q => ?_) (fun E h1 q => ?_)
  · obtain ⟨g1, κ1, y, z⟩ := q
    obtain ⟨z1, z2, z3⟩ := z
    obtain rfl := Sum.inl.inj z1
    obtain rfl := z2.symm
    have x1 := x.c y rfl
    have hgx : gX g ≤ gX g + 1 := by omega
    refine q_aload_n d_W_law_175 rfl rfl ?_
    refine w_ld (k := 1) d_W_law_176 d_W_law_177 d_W_law_179 (by decide) d_W_law_180 d_W_law_181 x1.2.2.1 (by omega) hn rfl rfl ?_
    refine q_callV (As := [_]) d_W_law_182 lW_32 mv_M_end rfl x1.k.2 rfl rfl (Nat.le_of_ble_eq_true rfl) (by decide) (m_end (s0 := s0) (l := l) ⟨h2, htb⟩ h1 x1.2.1) (fun v2 h2 q2 => ?_) (fun E h2 q2 => ?_)
    · obtain ⟨r9, σ9, e9, y9, z9, z10⟩ := q2
      obtain rfl := Sum.inl.inj e9
      obtain rfl := z9
      obtain rfl := z10
      have x2 := x1.m y9
      refine q_icmp_eq (tgt := 475) d_W_law_185 (by decide) (fun _ => ?_) (fun c9 => absurd rfl c9)
      exact nx _ _ _ _ _ _ x2 z3 hgx
    · obtain ⟨r9, σ9, e9, -⟩ := q2
      exact nomatch e9
  · obtain ⟨g1, κ1, y, z⟩ := q
    exact nomatch z.1

theorem w_bits {s0 : State} {l : Launch} {h0 : Mem} {c : Cx} {sc n i : Nat} {f : Nat → Int32} {g : Gh} {κ σ : Sg} {h : Mem} {y5 y6 : Option Value} (hn : n ≤ 3072) (hi : i + 6 ≤ n) (x : LJ s0 c sc n f g κ σ h) (hr : RL g κ σ) (nx : NX s0 l h0 c sc n f i (gX g)) : RQ s0 l M_W_law h0 190 [some (.ref sc), some (.ref c.1), some (.ref c.2.1), some (.ref (c.2.1 + 15)), some (.int (nI (i))), y5, y6] [] h (LQ c) := by
  obtain ⟨tb, -, h2, htb, -⟩ := hr.2.1
  have hx := x_bits (s0 := s0) (l := l) (c := c) (v := f (i + 1)) (n := f (i + 2)) hr h2 htb h x.1
  rw [x.2.2.2.2.2] at hx
  refine q_aload_n d_W_law_190 rfl rfl ?_
  refine w_ld (k := 1) d_W_law_191 d_W_law_192 d_W_law_194 (by decide) d_W_law_195 d_W_law_196 x.2.2.1 (by omega) hn rfl rfl ?_
  refine w_ld (k := 2) d_W_law_197 d_W_law_198 d_W_law_200 (by decide) d_W_law_201 d_W_law_202 x.2.2.1 (by omega) hn rfl rfl ?_
  refine q_callV (As := [_, _]) d_W_law_203 lW_33 mv_X_bits rfl x.k.1 rfl rfl (Nat.le_of_ble_eq_true rfl) (by decide) hx (fun v h1 q => ?_) (fun E h1 q => ?_)
  · obtain ⟨g1, κ1, y, z⟩ := q
    obtain ⟨z1, z2, z3⟩ := z
    obtain rfl := Sum.inl.inj z1
    obtain rfl := z2.symm
    have x1 := x.c y rfl
    have hgx : gX g ≤ gX g + 1 := by omega
    refine q_aload_n d_W_law_206 rfl rfl ?_
    refine w_ld (k := 1) d_W_law_207 d_W_law_208 d_W_law_210 (by decide) d_W_law_211 d_W_law_212 x1.2.2.1 (by omega) hn rfl rfl ?_
    refine w_ld (k := 2) d_W_law_213 d_W_law_214 d_W_law_216 (by decide) d_W_law_217 d_W_law_218 x1.2.2.1 (by omega) hn rfl rfl ?_
    refine q_callV (As := [_, _]) d_W_law_219 lW_36 mv_M_bits rfl x1.k.2 rfl rfl (Nat.le_of_ble_eq_true rfl) (by decide) (m_bits (s0 := s0) (l := l) ⟨h2, htb⟩ h1 x1.2.1) (fun v2 h2 q2 => ?_) (fun E h2 q2 => ?_)
    · obtain ⟨r9, σ9, e9, y9, z9, z10⟩ := q2
      obtain rfl := Sum.inl.inj e9
      obtain rfl := z9
      obtain rfl := z10
      have x2 := x1.m y9
      refine q_icmp_eq (tgt := 475) d_W_law_222 (by decide) (fun _ => ?_) (fun c9 => absurd rfl c9)
      exact nx _ _ _ _ _ _ x2 z3 hgx
    · obtain ⟨r9, σ9, e9, -⟩ := q2
      exact nomatch e9
  · obtain ⟨g1, κ1, y, z⟩ := q
    exact nomatch z.1

theorem w_read {s0 : State} {l : Launch} {h0 : Mem} {c : Cx} {sc n i : Nat} {f : Nat → Int32} {g : Gh} {κ σ : Sg} {h : Mem} {y5 y6 : Option Value} (hn : n ≤ 3072) (hi : i + 6 ≤ n) (x : LJ s0 c sc n f g κ σ h) (hr : RL g κ σ) (nx : NX s0 l h0 c sc n f i (gX g)) : RQ s0 l M_W_law h0 227 [some (.ref sc), some (.ref c.1), some (.ref c.2.1), some (.ref (c.2.1 + 15)), some (.int (nI (i))), y5, y6] [] h (LQ c) := by
  obtain ⟨tb, -, h2, htb, -⟩ := hr.2.1
  have hx := x_read (s0 := s0) (l := l) (c := c) hr h2 htb h x.1
  rw [x.2.2.2.2.2] at hx
  refine q_aload_n d_W_law_227 rfl rfl ?_
  refine q_callVH (As := []) d_W_law_228 lW_37 mv_X_read (by decide) x.k.1 rfl rfl (Nat.le_of_ble_eq_true rfl) (by decide) hx (fun v h1 q => ?_) (fun E h1 q => ?_)
  · obtain ⟨g1, κ1, y, z⟩ := q
    obtain ⟨z1, z3, hgx, z4⟩ := z
    obtain rfl := Sum.inl.inj z1
    have x1 := x.c y (z4 0 (by decide))
    refine q_aload_n d_W_law_231 rfl rfl ?_
    refine q_callV (As := []) d_W_law_232 lW_41 mv_M_read rfl x1.k.2 rfl rfl (Nat.le_of_ble_eq_true rfl) (by decide) (m_read (s0 := s0) (l := l) ⟨h2, htb⟩ hr.2.2.2.2.2.1 hr.2.2.2.2.1 h1 x1.2.1) (fun v2 h2 q2 => ?_) (fun E h2 q2 => ?_)
    · obtain ⟨r9, σ9, e9, y9, z9, z10⟩ := q2
      obtain rfl := Sum.inl.inj e9
      obtain rfl := z9
      obtain rfl := z10
      have x2 := x1.m y9
      refine q_icmp_eq (tgt := 475) d_W_law_235 (by decide) (fun _ => ?_) (fun c9 => absurd rfl c9)
      exact nx _ _ _ _ _ _ x2 z3 hgx
    · obtain ⟨r9, σ9, e9, -⟩ := q2
      exact nomatch e9
  · obtain ⟨g1, κ1, y, z⟩ := q
    exact nomatch z.1

theorem w_wrong {s0 : State} {l : Launch} {h0 : Mem} {c : Cx} {sc n i : Nat} {f : Nat → Int32} {g : Gh} {κ σ : Sg} {h : Mem} {y5 y6 : Option Value} (hn : n ≤ 3072) (hi : i + 6 ≤ n) (x : LJ s0 c sc n f g κ σ h) (hr : RL g κ σ) (nx : NX s0 l h0 c sc n f i (gX g)) : RQ s0 l M_W_law h0 240 [some (.ref sc), some (.ref c.1), some (.ref c.2.1), some (.ref (c.2.1 + 15)), some (.int (nI (i))), y5, y6] [] h (LQ c) := by
  have hx := x_wrong (s0 := s0) (l := l) (c := c) hr h x.1
  rw [x.2.2.2.2.2] at hx
  refine q_aload_n d_W_law_240 rfl rfl ?_
  refine q_callV (As := []) d_W_law_241 lW_42 mv_X_wrong rfl x.k.1 rfl rfl (Nat.le_of_ble_eq_true rfl) (by decide) hx (fun v h1 q => ?_) (fun E h1 q => ?_)
  · obtain ⟨g1, κ1, y, z⟩ := q
    obtain ⟨z1, z2, z3⟩ := z
    obtain rfl := Sum.inl.inj z1
    obtain rfl := z2.symm
    obtain rfl := z3
    have x1 := x.c y rfl
    have hgx : gX g ≤ gX g + 1 := by omega
    refine q_aload_n d_W_law_244 rfl rfl ?_
    refine q_callV (As := []) d_W_law_245 lW_45 mv_M_wrong rfl x1.k.2 rfl rfl (Nat.le_of_ble_eq_true rfl) (by decide) (m_wrong (s0 := s0) (l := l) h1 x1.2.1) (fun v2 h2 q2 => ?_) (fun E h2 q2 => ?_)
    · obtain ⟨r9, σ9, e9, y9, z9, z10⟩ := q2
      obtain rfl := Sum.inl.inj e9
      obtain rfl := z9
      obtain rfl := z10
      have x2 := x1.m y9
      refine q_icmp_eq (tgt := 475) d_W_law_248 (by decide) (fun _ => ?_) (fun c9 => absurd rfl c9)
      exact nx _ _ _ _ _ _ x2 hr.q hgx
    · obtain ⟨r9, σ9, e9, -⟩ := q2
      exact nomatch e9
  · obtain ⟨g1, κ1, y, z⟩ := q
    exact nomatch z.1

theorem w_dot {s0 : State} {l : Launch} {h0 : Mem} {c : Cx} {sc n i : Nat} {f : Nat → Int32} {g : Gh} {κ σ : Sg} {h : Mem} {y5 y6 : Option Value} (hn : n ≤ 3072) (hi : i + 6 ≤ n) (x : LJ s0 c sc n f g κ σ h) (hr : RL g κ σ) (nx : NX s0 l h0 c sc n f i (gX g)) : RQ s0 l M_W_law h0 377 [some (.ref sc), some (.ref c.1), some (.ref c.2.1), some (.ref (c.2.1 + 15)), some (.int (nI (i))), y5, y6] [] h (LQ c) := by
  obtain ⟨A, B, hAB, hx0⟩ := x_dot (s0 := s0) (l := l) (c := c) (k := f (i + 1)) (p := f (i + 2)) (x := f (i + 3)) (y := f (i + 4)) hr
  have hx := hx0 h x.1
  rw [x.2.2.2.2.2] at hx
  refine q_aload_n d_W_law_377 rfl rfl ?_
  refine w_ld (k := 1) d_W_law_378 d_W_law_379 d_W_law_381 (by decide) d_W_law_382 d_W_law_383 x.2.2.1 (by omega) hn rfl rfl ?_
  refine w_ld (k := 2) d_W_law_384 d_W_law_385 d_W_law_387 (by decide) d_W_law_388 d_W_law_389 x.2.2.1 (by omega) hn rfl rfl ?_
  refine w_ld (k := 3) d_W_law_390 d_W_law_391 d_W_law_393 (by decide) d_W_law_394 d_W_law_395 x.2.2.1 (by omega) hn rfl rfl ?_
  refine w_ld (k := 4) d_W_law_396 d_W_law_397 d_W_law_399 (by decide) d_W_law_400 d_W_law_401 x.2.2.1 (by omega) hn rfl rfl ?_
  refine q_callV (As := [_, _, _, _]) d_W_law_402 lW_59 mv_X_dot rfl x.k.1 rfl rfl (Nat.le_of_ble_eq_true rfl) (by decide) hx (fun v h1 q => ?_) (fun E h1 q => ?_)
  · obtain ⟨g1, κ1, y, z⟩ := q
    obtain ⟨z1, z2, z3⟩ := z
    obtain rfl := Sum.inl.inj z1
    obtain rfl := z2.symm
    obtain rfl := z3
    have x1 := x.c y rfl
    have hgx : gX g ≤ gX g + 1 := by omega
    refine q_aload_n d_W_law_405 rfl rfl ?_
    refine w_ld (k := 1) d_W_law_406 d_W_law_407 d_W_law_409 (by decide) d_W_law_410 d_W_law_411 x1.2.2.1 (by omega) hn rfl rfl ?_
    refine w_ld (k := 2) d_W_law_412 d_W_law_413 d_W_law_415 (by decide) d_W_law_416 d_W_law_417 x1.2.2.1 (by omega) hn rfl rfl ?_
    refine w_ld (k := 3) d_W_law_418 d_W_law_419 d_W_law_421 (by decide) d_W_law_422 d_W_law_423 x1.2.2.1 (by omega) hn rfl rfl ?_
    refine w_ld (k := 4) d_W_law_424 d_W_law_425 d_W_law_427 (by decide) d_W_law_428 d_W_law_429 x1.2.2.1 (by omega) hn rfl rfl ?_
    refine q_callV (As := [_, _, _, _]) d_W_law_430 lW_63 mv_M_dot rfl x1.k.2 rfl rfl (Nat.le_of_ble_eq_true rfl) (by decide) (m_dot (s0 := s0) (l := l) hAB h1 x1.2.1) (fun v2 h2 q2 => ?_) (fun E h2 q2 => ?_)
    · obtain ⟨r9, σ9, e9, y9, z9, z10⟩ := q2
      obtain rfl := Sum.inl.inj e9
      obtain rfl := z9
      obtain rfl := z10
      have x2 := x1.m y9
      refine q_icmp_eq (tgt := 475) d_W_law_433 (by decide) (fun _ => ?_) (fun c9 => absurd rfl c9)
      exact nx _ _ _ _ _ _ x2 hr.q hgx
    · obtain ⟨r9, σ9, e9, -⟩ := q2
      exact nomatch e9
  · obtain ⟨g1, κ1, y, z⟩ := q
    exact nomatch z.1

theorem w_sum {s0 : State} {l : Launch} {h0 : Mem} {c : Cx} {sc n i : Nat} {f : Nat → Int32} {g : Gh} {κ σ : Sg} {h : Mem} {y5 y6 : Option Value} (hn : n ≤ 3072) (hi : i + 6 ≤ n) (x : LJ s0 c sc n f g κ σ h) (hr : RL g κ σ) (nx : NX s0 l h0 c sc n f i (gX g)) : RQ s0 l M_W_law h0 438 [some (.ref sc), some (.ref c.1), some (.ref c.2.1), some (.ref (c.2.1 + 15)), some (.int (nI (i))), y5, y6] [] h (LQ c) := by
  obtain ⟨A, B, hAB, hx0⟩ := x_sum (s0 := s0) (l := l) (c := c) (k := f (i + 1)) (p := f (i + 2)) hr
  have hx := hx0 h x.1
  rw [x.2.2.2.2.2] at hx
  refine q_aload_n d_W_law_438 rfl rfl ?_
  refine w_ld (k := 1) d_W_law_439 d_W_law_440 d_W_law_442 (by decide) d_W_law_443 d_W_law_444 x.2.2.1 (by omega) hn rfl rfl ?_
  refine w_ld (k := 2) d_W_law_445 d_W_law_446 d_W_law_448 (by decide) d_W_law_449 d_W_law_450 x.2.2.1 (by omega) hn rfl rfl ?_
  refine q_callV (As := [_, _]) d_W_law_451 lW_64 mv_X_sum rfl x.k.1 rfl rfl (Nat.le_of_ble_eq_true rfl) (by decide) hx (fun v h1 q => ?_) (fun E h1 q => ?_)
  · obtain ⟨g1, κ1, y, z⟩ := q
    obtain ⟨z1, z2, z3⟩ := z
    obtain rfl := Sum.inl.inj z1
    obtain rfl := z2.symm
    obtain rfl := z3
    have x1 := x.c y rfl
    have hgx : gX g ≤ gX g + 1 := by omega
    refine q_aload_n d_W_law_454 rfl rfl ?_
    refine w_ld (k := 1) d_W_law_455 d_W_law_456 d_W_law_458 (by decide) d_W_law_459 d_W_law_460 x1.2.2.1 (by omega) hn rfl rfl ?_
    refine w_ld (k := 2) d_W_law_461 d_W_law_462 d_W_law_464 (by decide) d_W_law_465 d_W_law_466 x1.2.2.1 (by omega) hn rfl rfl ?_
    refine q_callV (As := [_, _]) d_W_law_467 lW_67 mv_M_sum rfl x1.k.2 rfl rfl (Nat.le_of_ble_eq_true rfl) (by decide) (m_sum (s0 := s0) (l := l) hAB h1 x1.2.1) (fun v2 h2 q2 => ?_) (fun E h2 q2 => ?_)
    · obtain ⟨r9, σ9, e9, y9, z9, z10⟩ := q2
      obtain rfl := Sum.inl.inj e9
      obtain rfl := z9
      obtain rfl := z10
      have x2 := x1.m y9
      refine q_icmp_eq (tgt := 475) d_W_law_470 (by decide) (fun _ => ?_) (fun c9 => absurd rfl c9)
      exact nx _ _ _ _ _ _ x2 hr.q hgx
    · obtain ⟨r9, σ9, e9, -⟩ := q2
      exact nomatch e9
  · obtain ⟨g1, κ1, y, z⟩ := q
    exact nomatch z.1

theorem lk_c {s0 : State} {c : Cx} {sc n : Nat} {f : Nat → Int32} {g : Gh} {κ σ : Sg} {r : Int32 × Sg} {v : Option Value} {h' : Mem} (q : LK s0 c sc n f g κ σ r (.inl v) h') : ∃ kv g1, v = some (.int kv) ∧ r.2 0 0 = kv ∧ LJ s0 c sc n f g1 κ σ h' ∧ gX g1 ≤ gX g + 1 ∧ (kv = 0 → mJ h' (c.2.1 + 15) 0 = r.1.toInt64) ∧ ((kv = nI 0 ∧ g1 = g) ∨ (kv = nI 1 ∧ g1 = gx g)) := by
  rcases q with ⟨q1, q2, q3, q4⟩ | ⟨q1, q2, q3⟩
  · exact ⟨nI 0, g, Sum.inl.inj q2, q1, q3, by omega, fun _ => q4, Or.inl ⟨rfl, rfl⟩⟩
  · exact ⟨nI 1, gx g, Sum.inl.inj q2, q1, q3, Nat.le_refl _, fun z => absurd z (by decide), Or.inr ⟨rfl, rfl⟩⟩

theorem w_lk {s0 : State} {l : Launch} {h0 : Mem} {c : Cx} {sc n i : Nat} {f : Nat → Int32} {g : Gh} {κ σ : Sg} {h : Mem} {y5 y6 : Option Value} (hn : n ≤ 3072) (hi : i + 6 ≤ n) (x : LJ s0 c sc n f g κ σ h) (hr : RL g κ σ) (nx : NX s0 l h0 c sc n f i (gX g)) : RQ s0 l M_W_law h0 253 [some (.ref sc), some (.ref c.1), some (.ref c.2.1), some (.ref (c.2.1 + 15)), some (.int (nI (i))), y5, y6] [] h (LQ c) := by
  refine q_aload_n d_W_law_253 rfl rfl ?_
  refine w_ld (k := 1) d_W_law_254 d_W_law_255 d_W_law_257 (by decide) d_W_law_258 d_W_law_259 x.2.2.1 (by omega) hn rfl rfl ?_
  refine q_aload_n d_W_law_260 rfl rfl ?_
  refine q_callSH (As := [_, _, _]) d_W_law_261 lW_46 ms_W_look (by decide) rfl rfl (Nat.le_of_ble_eq_true rfl) (by decide) (w_look x hr) (fun v h1 q => ?_) (fun E h1 q => ?_)
  · obtain ⟨kv, g1, rfl, hk01, x1, hgx, hjv, hth⟩ := lk_c q
    refine q_istore d_W_law_264 (Nat.le_of_ble_eq_true rfl) ?_
    refine q_aload_n d_W_law_266 rfl rfl ?_
    refine w_ld (k := 1) d_W_law_267 d_W_law_268 d_W_law_270 (by decide) d_W_law_271 d_W_law_272 x1.2.2.1 (by omega) hn rfl rfl ?_
    refine q_callV (As := [_]) d_W_law_273 lW_51 mv_M_look rfl x1.k.2 rfl rfl (Nat.le_of_ble_eq_true rfl) (by decide) (m_look (s0 := s0) (l := l) h1 x1.2.1) (fun v2 h2 q2 => ?_) (fun E h2 q2 => ?_)
    · obtain ⟨r9, σ9, e9, y9, z9, z10⟩ := q2
      obtain rfl := Sum.inl.inj e9
      obtain rfl := z9
      obtain rfl := z10
      have x2 := x1.m y9
      refine q_istore d_W_law_276 (Nat.le_of_ble_eq_true rfl) ?_
      refine q_aload_n d_W_law_278 rfl rfl ?_
      refine q_callV (As := []) d_W_law_279 lW_52 mv_M_thrown rfl x2.k.2 rfl rfl (Nat.le_of_ble_eq_true rfl) (by decide) (m_thrown (s0 := s0) (l := l) h2 x2.2.1) (fun v3 h3 q3 => ?_) (fun E h3 q3 => ?_)
      · obtain ⟨r8, σ8, e8, y8, z8, z11⟩ := q3
        obtain rfl := Sum.inl.inj e8
        obtain rfl := z8
        obtain rfl := z11
        have x3 := x2.m y8
        obtain ⟨vq, hvq⟩ := lk_q (σ := σ) (w := f (i + 1))
        have hr3 : RL g1 κ (fLk σ (f (i + 1))).2 := by
          rw [hvq]
          rcases hth with ⟨-, rfl⟩ | ⟨-, rfl⟩
          · exact hr.q
          · exact (hr.q).gx
        refine q_iload d_W_law_282 rfl ?_
        refine q_icmp_eq (tgt := 289) d_W_law_284 (by decide) (fun _ => ?_) (fun c9 => absurd hk01 c9)
        refine q_iload d_W_law_289 rfl ?_
        refine q_if_ne (tgt := 306) d_W_law_291 (by decide) (fun c8 => ?_) (fun c8 => ?_)
        · refine q_goto (tgt := 475) d_W_law_306 (by decide) ?_
          exact nx _ _ _ _ _ _ x3 hr3 hgx
        · have hj1 := hjv c8
          have o15 := y9.2.2.2 (c.2.1 + 15) (Or.inr (Nat.le_refl _))
          have p15 := y8.2.2.2 (c.2.1 + 15) (Or.inr (Nat.le_refl _))
          refine q_aload_n d_W_law_294 rfl rfl ?_
          refine q_iconst (v := nI 0) d_W_law_295 (by decide) ?_
          refine q_laload d_W_law_296 x3.2.2.2.1.1 (by rw [x3.2.2.2.1.2]; exact vp_in_nI (show 0 < 1 by decide) (by decide)) ?_
          refine q_iload d_W_law_297 rfl ?_
          refine q_i2l d_W_law_299 ?_
          refine q_lcmp d_W_law_300 ?_
          rw [show mJ h3 (c.2.1 + 15) (nI 0).toNatClampNeg = (fLk σ (f (i + 1))).1.toInt64 from (p15.2.2.2.2 0).trans ((o15.2.2.2.2 0).trans hj1), lcmp_0]
          refine q_if_eq (tgt := 306) d_W_law_301 (by decide) (fun _ => ?_) (fun c9 => absurd rfl c9)
          refine q_goto (tgt := 475) d_W_law_306 (by decide) ?_
          exact nx _ _ _ _ _ _ x3 hr3 hgx
      · obtain ⟨r8, σ8, e8, -⟩ := q3
        exact nomatch e8
    · obtain ⟨r9, σ9, e9, -⟩ := q2
      exact nomatch e9
  · rcases q with ⟨-, q, -⟩ | ⟨-, q, -⟩
    · exact nomatch q
    · exact nomatch q

theorem w_shn {s0 : State} {l : Launch} {h0 : Mem} {c : Cx} {sc n i : Nat} {f : Nat → Int32} {g : Gh} {κ σ : Sg} {h : Mem} {y5 y6 : Option Value} (hn : n ≤ 3072) (hi : i + 6 ≤ n) (x : LJ s0 c sc n f g κ σ h) (hr : RL g κ σ) (nx : NX s0 l h0 c sc n f i (gX g)) : RQ s0 l M_W_law h0 309 [some (.ref sc), some (.ref c.1), some (.ref c.2.1), some (.ref (c.2.1 + 15)), some (.int (nI (i))), y5, y6] [] h (LQ c) := by
  refine q_aload_n d_W_law_309 rfl rfl ?_
  refine w_ld (k := 1) d_W_law_310 d_W_law_311 d_W_law_313 (by decide) d_W_law_314 d_W_law_315 x.2.2.1 (by omega) hn rfl rfl ?_
  refine w_ld (k := 2) d_W_law_316 d_W_law_317 d_W_law_319 (by decide) d_W_law_320 d_W_law_321 x.2.2.1 (by omega) hn rfl rfl ?_
  refine q_aload_n d_W_law_322 rfl rfl ?_
  refine q_callSH (As := [_, _, _, _]) d_W_law_323 lW_55 ms_W_shown (by decide) rfl rfl (Nat.le_of_ble_eq_true rfl) (by decide) (w_shown x hr) (fun v h1 q => ?_) (fun E h1 q => ?_)
  · obtain ⟨kv, g1, rfl, hk01, x1, hgx, hjv, hth⟩ := lk_c q
    refine q_istore d_W_law_326 (Nat.le_of_ble_eq_true rfl) ?_
    refine q_aload_n d_W_law_328 rfl rfl ?_
    refine w_ld (k := 1) d_W_law_329 d_W_law_330 d_W_law_332 (by decide) d_W_law_333 d_W_law_334 x1.2.2.1 (by omega) hn rfl rfl ?_
    refine w_ld (k := 2) d_W_law_335 d_W_law_336 d_W_law_338 (by decide) d_W_law_339 d_W_law_340 x1.2.2.1 (by omega) hn rfl rfl ?_
    refine q_callV (As := [_, _]) d_W_law_341 lW_58 mv_M_shown rfl x1.k.2 rfl rfl (Nat.le_of_ble_eq_true rfl) (by decide) (m_shown (s0 := s0) (l := l) h1 x1.2.1) (fun v2 h2 q2 => ?_) (fun E h2 q2 => ?_)
    · obtain ⟨r9, σ9, e9, y9, z9, z10⟩ := q2
      obtain rfl := Sum.inl.inj e9
      obtain rfl := z9
      obtain rfl := z10
      have x2 := x1.m y9
      refine q_istore d_W_law_344 (Nat.le_of_ble_eq_true rfl) ?_
      refine q_aload_n d_W_law_346 rfl rfl ?_
      refine q_callV (As := []) d_W_law_347 lW_52 mv_M_thrown rfl x2.k.2 rfl rfl (Nat.le_of_ble_eq_true rfl) (by decide) (m_thrown (s0 := s0) (l := l) h2 x2.2.1) (fun v3 h3 q3 => ?_) (fun E h3 q3 => ?_)
      · obtain ⟨r8, σ8, e8, y8, z8, z11⟩ := q3
        obtain rfl := Sum.inl.inj e8
        obtain rfl := z8
        obtain rfl := z11
        have x3 := x2.m y8
        obtain ⟨vq, hvq⟩ := shn_q (σ := σ) (k := f (i + 1)) (w := f (i + 2))
        have hr3 : RL g1 κ (fShn σ (f (i + 1)) (f (i + 2))).2 := by
          rw [hvq]
          rcases hth with ⟨-, rfl⟩ | ⟨-, rfl⟩
          · exact hr.q
          · exact (hr.q).gx
        refine q_iload d_W_law_350 rfl ?_
        refine q_icmp_eq (tgt := 357) d_W_law_352 (by decide) (fun _ => ?_) (fun c9 => absurd hk01 c9)
        refine q_iload d_W_law_357 rfl ?_
        refine q_if_ne (tgt := 374) d_W_law_359 (by decide) (fun c8 => ?_) (fun c8 => ?_)
        · refine q_goto (tgt := 475) d_W_law_374 (by decide) ?_
          exact nx _ _ _ _ _ _ x3 hr3 hgx
        · have hj1 := hjv c8
          have o15 := y9.2.2.2 (c.2.1 + 15) (Or.inr (Nat.le_refl _))
          have p15 := y8.2.2.2 (c.2.1 + 15) (Or.inr (Nat.le_refl _))
          refine q_aload_n d_W_law_362 rfl rfl ?_
          refine q_iconst (v := nI 0) d_W_law_363 (by decide) ?_
          refine q_laload d_W_law_364 x3.2.2.2.1.1 (by rw [x3.2.2.2.1.2]; exact vp_in_nI (show 0 < 1 by decide) (by decide)) ?_
          refine q_iload d_W_law_365 rfl ?_
          refine q_i2l d_W_law_367 ?_
          refine q_lcmp d_W_law_368 ?_
          rw [show mJ h3 (c.2.1 + 15) (nI 0).toNatClampNeg = (fShn σ (f (i + 1)) (f (i + 2))).1.toInt64 from (p15.2.2.2.2 0).trans ((o15.2.2.2.2 0).trans hj1), lcmp_0]
          refine q_if_eq (tgt := 374) d_W_law_369 (by decide) (fun _ => ?_) (fun c9 => absurd rfl c9)
          refine q_goto (tgt := 475) d_W_law_374 (by decide) ?_
          exact nx _ _ _ _ _ _ x3 hr3 hgx
      · obtain ⟨r8, σ8, e8, -⟩ := q3
        exact nomatch e8
    · obtain ⟨r9, σ9, e9, -⟩ := q2
      exact nomatch e9
  · rcases q with ⟨-, q, -⟩ | ⟨-, q, -⟩
    · exact nomatch q
    · exact nomatch q

