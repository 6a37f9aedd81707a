/-! ===== the law's loop, from its head ===== -/
theorem w_loop {s0 : State} {l : Launch} {h0 : Mem} {c : Cx} {sc n : Nat} {f : Nat → Int32} (hn : n ≤ 3072) : ∀ (r i : Nat) (g : Gh) (κ σ : Sg) (h : Mem) (y5 y6 : Option Value), n ≤ i + 6 * r + 5 → i ≤ n → LJ s0 c sc n f g κ σ h → RL g κ σ → 6 * gX g ≤ i → RQ s0 l M_W_law h0 23 [some (.ref sc), some (.ref c.1), some (.ref c.2.1), some (.ref (c.2.1 + 15)), some (.int (nI (i))), y5, y6] [] h (LQ c) := by
  intro r
  induction r with
  | zero =>
    intro i g κ σ h y5 y6 h1 h2 x hr hg
    have hS := x.2.2.1
    refine q_iload d_W_law_23 rfl ?_
    refine q_aload_n d_W_law_25 rfl rfl ?_
    refine q_alen d_W_law_26 (Or.inr hS.1) ?_
    rw [hS.2.1]
    refine q_bipush (v := nI 6) d_W_law_27 (by decide) ?_
    refine q_isub d_W_law_29 ?_
    refine q_icmp_gt (tgt := 481) d_W_law_30 (by decide) (fun _ => ?_) (fun c9 => absurd ?_ c9)
    · refine q_iconst (v := nI 1) d_W_law_481 (by decide) ?_
      refine q_iret d_W_law_482 rfl rfl ?_
      have b1 := x.1.2.1
      have b2 := x.1.2.2
      exact ⟨rfl, by omega, by omega⟩
    · rw [i_lt, pk_sub_toInt (by omega) (by decide), nI_toInt (by omega)]
      omega
  | succ r ih =>
    intro i g κ σ h y5 y6 h1 h2 x hr hg
    have hS := x.2.2.1
    refine q_iload d_W_law_23 rfl ?_
    refine q_aload_n d_W_law_25 rfl rfl ?_
    refine q_alen d_W_law_26 (Or.inr hS.1) ?_
    rw [hS.2.1]
    refine q_bipush (v := nI 6) d_W_law_27 (by decide) ?_
    refine q_isub d_W_law_29 ?_
    have e9 : (nI n - nI 6).toInt = n - 6 := pk_sub_toInt (by omega) (by decide)
    refine q_icmp_gt (tgt := 481) d_W_law_30 (by decide) (fun _ => ?_) (fun c9 => ?_)
    · refine q_iconst (v := nI 1) d_W_law_481 (by decide) ?_
      refine q_iret d_W_law_482 rfl rfl ?_
      have b1 := x.1.2.1
      have b2 := x.1.2.2
      exact ⟨rfl, by omega, by omega⟩
    have hi : i + 6 ≤ n := by
      rw [i_lt, e9, nI_toInt (by omega)] at c9
      omega
    have nx : NX s0 l h0 c sc n f i (gX g) := fun g' κ' σ' h' y5 y6 x' hr' hg' => by
      refine q_iinc d_W_law_475 rfl ?_
      rw [show nI i + Int32.ofInt 6 = nI (i + 6) from nI_add i 6]
      refine q_goto (tgt := 23) d_W_law_478 (by decide) ?_
      exact ih (i + 6) g' κ' σ' h' y5 y6 (by omega) (by omega) x' hr' (by omega)
    refine q_aload_n d_W_law_33 rfl rfl ?_
    refine q_iload d_W_law_34 rfl ?_
    refine q_iaload d_W_law_36 (Or.inr hS.1) (by rw [hS.2.1]; exact vp_in_nI (by omega) (by omega)) ?_
    refine q_bipush (v := nI 15) d_W_law_37 (by decide) ?_
    refine q_iand d_W_law_39 ?_
    obtain ⟨t, ht, et⟩ := pk_andE (mI h sc (nI i).toNatClampNeg) (m := nI 15) 4 (by decide)
    rw [et]
    have ht : t < 16 := ht
    rcases (show t = 0 ∨ t = 1 ∨ t = 2 ∨ t = 3 ∨ t = 4 ∨ t = 5 ∨ t = 6 ∨ t = 7 ∨ t = 8 ∨ t = 9 ∨ t = 10 ∨ t = 11 ∨ t = 12 ∨ t = 13 ∨ t = 14 ∨ t = 15 by omega) with rfl | rfl | rfl | rfl | rfl | rfl | rfl | rfl | rfl | rfl | rfl | rfl | rfl | rfl | rfl | rfl
    · refine q_tableIn (tgt := 92) d_W_law_40 (by decide) (by decide) (off := 52) (by decide) (by decide) ?_
      exact w_feed hn hi x hr nx
    · refine q_tableIn (tgt := 165) d_W_law_40 (by decide) (by decide) (off := 125) (by decide) (by decide) ?_
      exact w_end hn hi x hr nx
    · refine q_tableIn (tgt := 190) d_W_law_40 (by decide) (by decide) (off := 150) (by decide) (by decide) ?_
      exact w_bits hn hi x hr nx
    · refine q_tableIn (tgt := 227) d_W_law_40 (by decide) (by decide) (off := 187) (by decide) (by decide) ?_
      exact w_read hn hi x hr nx
    · refine q_tableIn (tgt := 240) d_W_law_40 (by decide) (by decide) (off := 200) (by decide) (by decide) ?_
      exact w_wrong hn hi x hr nx
    · refine q_tableIn (tgt := 253) d_W_law_40 (by decide) (by decide) (off := 213) (by decide) (by decide) ?_
      exact w_lk hn hi x hr nx
    · refine q_tableIn (tgt := 309) d_W_law_40 (by decide) (by decide) (off := 269) (by decide) (by decide) ?_
      exact w_shn hn hi x hr nx
    · refine q_tableIn (tgt := 377) d_W_law_40 (by decide) (by decide) (off := 337) (by decide) (by decide) ?_
      exact w_dot hn hi x hr nx
    · refine q_tableIn (tgt := 438) d_W_law_40 (by decide) (by decide) (off := 398) (by decide) (by decide) ?_
      exact w_sum hn hi x hr nx
    · refine q_tableOut (tgt := 475) d_W_law_40 (by decide) (by decide) ?_
      exact nx _ _ _ _ _ _ x hr (by omega)
    · refine q_tableOut (tgt := 475) d_W_law_40 (by decide) (by decide) ?_
      exact nx _ _ _ _ _ _ x hr (by omega)
    · refine q_tableOut (tgt := 475) d_W_law_40 (by decide) (by decide) ?_
      exact nx _ _ _ _ _ _ x hr (by omega)
    · refine q_tableOut (tgt := 475) d_W_law_40 (by decide) (by decide) ?_
      exact nx _ _ _ _ _ _ x hr (by omega)
    · refine q_tableOut (tgt := 475) d_W_law_40 (by decide) (by decide) ?_
      exact nx _ _ _ _ _ _ x hr (by omega)
    · refine q_tableOut (tgt := 475) d_W_law_40 (by decide) (by decide) ?_
      exact nx _ _ _ _ _ _ x hr (by omega)
    · refine q_tableOut (tgt := 475) d_W_law_40 (by decide) (by decide) ?_
      exact nx _ _ _ _ _ _ x hr (by omega)

/-! ===== the new object as cells ===== -/
def t0 (i : Nat) : Nat := if i < 6 then i else i + 27
def gA0 (b i : Nat) : Nat := if i < 20 then b + t0 i else b + 6 + 9 * ((i - 20) / 9) + nOf ((i - 20) % 9)
def g00 (b : Nat) : Gh := (gA0 b, fun _ => 0, 0, 1, 2, 0, 0)
def κ00 : Sg := fun i j => if i < 20 then (if i = 1 ∧ j = 3 then -1 else if i = 3 ∧ j = 2 then nI 1 else if i = 3 ∧ j = 3 then nI 1 else 0) else pI ((i - 20) % 9) j
theorem gA0_p (b : Nat) {q r : Nat} (hr : r < 9) : gA0 b (20 + 9 * q + r) = b + 6 + 9 * q + nOf r := by
  unfold gA0
  rw [if_neg (by omega), show (20 + 9 * q + r - 20) / 9 = q by omega, show (20 + 9 * q + r - 20) % 9 = r by omega]
theorem gA0_inj {b i j : Nat} (hi : i < 13 ∨ (20 ≤ i ∧ i < 47)) (hj : j < 13 ∨ (20 ≤ j ∧ j < 47)) (h : gA0 b i = gA0 b j) : i = j := by
  have low : ∀ i, i < 13 → gA0 b i = b + t0 i := fun i hi => if_pos (by omega)
  rcases hi with hi | hi
  · rcases hj with hj | hj
    · rw [low i hi, low j hj] at h
      unfold t0 at h
      split at h <;> split at h <;> omega
    · obtain ⟨q, r, hr, rfl⟩ : ∃ q r, r < 9 ∧ j = 20 + 9 * q + r := ⟨(j - 20) / 9, (j - 20) % 9, by omega, by omega⟩
      rw [low i hi, gA0_p b hr] at h
      have := nOf_lt r
      unfold t0 at h
      split at h <;> omega
  · obtain ⟨q, r, hr, rfl⟩ : ∃ q r, r < 9 ∧ i = 20 + 9 * q + r := ⟨(i - 20) / 9, (i - 20) % 9, by omega, by omega⟩
    rw [gA0_p b hr] at h
    have := nOf_lt r
    rcases hj with hj | hj
    · rw [low j hj] at h
      unfold t0 at h
      split at h <;> omega
    · obtain ⟨q2, r2, hr2, rfl⟩ : ∃ q r, r < 9 ∧ j = 20 + 9 * q + r := ⟨(j - 20) / 9, (j - 20) % 9, by omega, by omega⟩
      rw [gA0_p b hr2] at h
      have := nOf_lt r2
      have e1 : q = q2 := by omega
      have e2 : nOf r = nOf r2 := by omega
      have e3 := nOf_inj r hr r2 hr2 e2
      omega
theorem kd_r {q r : Nat} (hr : r < 9) : kdI (20 + 9 * q + r) = kdI (20 + r) := by
  unfold kdI
  rw [if_neg (by omega), if_neg (by omega), show (20 + 9 * q + r - 20) % 9 = r by omega, show (20 + r - 20) % 9 = r by omega]
theorem ln_r {b q r : Nat} (hr : r < 9) : lnI (g00 b) (20 + 9 * q + r) = pL r := by
  unfold lnI
  rw [if_neg (by omega), show (20 + 9 * q + r - 20) % 9 = r by omega]
  rcases (show r = 0 ∨ r = 1 ∨ r = 2 ∨ r = 3 ∨ r = 4 ∨ r = 5 ∨ r = 6 ∨ r = 7 ∨ r = 8 by omega) with rfl | rfl | rfl | rfl | rfl | rfl | rfl | rfl | rfl <;> rfl
theorem κ_r {q r j : Nat} (hr : r < 9) : κ00 (20 + 9 * q + r) j = pI r j := by
  unfold κ00
  rw [if_neg (by omega), show (20 + 9 * q + r - 20) % 9 = r by omega]
theorem pt_r {b q r j : Nat} (hr : r < 9) : (ptr (g00 b) (20 + 9 * q + r) j).map (gA0 b) = pR (b + 6 + 9 * q) r j := by
  unfold ptr pR
  rw [if_neg (by omega)]
  unfold pt2
  rw [show (20 + 9 * q + r - 20) % 9 = r by omega, show (20 + r - 20) % 9 = r by omega]
  have key : ∀ k, k < 9 → gA0 b (20 + 9 * q + k) = b + 6 + 9 * q + nOf (20 + k - 20) := fun k hk => by
    rw [gA0_p b hk, show 20 + k - 20 = k by omega]
  rcases (show r = 0 ∨ r = 1 ∨ r = 2 ∨ r = 3 ∨ r = 4 ∨ r = 5 ∨ r = 6 ∨ r = 7 ∨ r = 8 by omega) with rfl | rfl | rfl | rfl | rfl | rfl | rfl | rfl | rfl
  · match j with
    | 0 => exact congrArg some (key 1 (by decide))
    | 1 => exact congrArg some (key 2 (by decide))
    | (n9 + 2) => rfl
  · show (if j < 3 then some (20 + 9 * q + 1 + 2 + j) else none).map (gA0 b) = (if j < 3 then some (20 + 1 + 2 + j) else none).map (fun t => b + 6 + 9 * q + nOf (t - 20))
    by_cases h : j < 3
    · rw [if_pos h, if_pos h]
      refine congrArg some ?_
      have := key (3 + j) (by omega)
      rw [show 20 + 9 * q + 1 + 2 + j = 20 + 9 * q + (3 + j) by omega, this]
      congr 2
      omega
    · rw [if_neg h, if_neg h]
      rfl
  · rfl
  · match j with
    | 0 => rfl
    | 1 => rfl
    | 2 => rfl
    | 3 => exact congrArg some (key 6 (by decide))
    | (n9 + 4) => rfl
  · match j with
    | 0 => rfl
    | 1 => rfl
    | 2 => rfl
    | 3 => exact congrArg some (key 7 (by decide))
    | (n9 + 4) => rfl
  · match j with
    | 0 => rfl
    | 1 => rfl
    | 2 => rfl
    | 3 => exact congrArg some (key 8 (by decide))
    | (n9 + 4) => rfl
  · rfl
  · rfl
  · rfl
theorem cel_at {b i a k n : Nat} {h : Mem} {I : Nat → Int32} {R : Nat → Option Nat} (x : At h a k n I R) (ha : gA0 b i = a) (hk : kdI i = k) (hn : lnI (g00 b) i = n) (hI : ∀ j, κ00 i j = I j) (hR : ∀ j, (ptr (g00 b) i j).map (gA0 b) = R j) : cel h (g00 b) κ00 i := by
  show mK h (gA0 b i) = kdI i ∧ mL h (gA0 b i) = lnI (g00 b) i ∧ (∀ j, mI h (gA0 b i) j = κ00 i j) ∧ ∀ j, mR h (gA0 b i) j = (ptr (g00 b) i j).map (gA0 b)
  rw [ha, hk, hn]
  exact ⟨x.1, x.2.1, fun j => (x.2.2.1 j).trans (hI j).symm, fun j => (x.2.2.2 j).trans (hR j).symm⟩
theorem XI.pic {b q : Nat} {h : Mem} (x : XI b h) (hq : q < 3) : PicAt h (b + 6 + 9 * q) := by
  obtain ⟨-, -, ⟨-, -, -, p1, p2, p3⟩, -⟩ := x
  rcases (show q = 0 ∨ q = 1 ∨ q = 2 by omega) with rfl | rfl | rfl
  · exact p1
  · exact p2
  · exact p3
theorem XI.cel {b i : Nat} {h : Mem} (x : XI b h) (hi : i < 13 ∨ (20 ≤ i ∧ i < 47)) : cel h (g00 b) κ00 i := by
  rcases hi with hi | hi
  · obtain ⟨x0, ⟨x1, x2⟩, ⟨x3, x4, x5, -⟩, x6, x7, x8, x9, x10, x11, x12⟩ := x
    rcases (show i = 0 ∨ i = 1 ∨ i = 2 ∨ i = 3 ∨ i = 4 ∨ i = 5 ∨ i = 6 ∨ i = 7 ∨ i = 8 ∨ i = 9 ∨ i = 10 ∨ i = 11 ∨ i = 12 by omega) with rfl | rfl | rfl | rfl | rfl | rfl | rfl | rfl | rfl | rfl | rfl | rfl | rfl

    · exact cel_at x0 rfl rfl rfl (fun j => by unfold κ00; rw [if_pos (by decide), if_neg (by omega), if_neg (by omega), if_neg (by omega)]) (fun j => by
        match j with
        | 0 => rfl
        | 1 => rfl
        | 2 => rfl
        | (n9 + 3) => unfold up; rw [if_neg (by omega), if_neg (by omega), if_neg (by omega)]; rfl)
    · exact cel_at x1 rfl rfl rfl (fun j => by
        match j with
        | 0 => rfl
        | 1 => rfl
        | 2 => rfl
        | 3 => rfl
        | (n9 + 4) => unfold κ00 up; rw [if_pos (by decide), if_neg (by omega), if_neg (by omega), if_neg (by omega), if_neg (by omega)]) (fun j => by
        match j with
        | 0 => rfl
        | (n9 + 1) => unfold up; rw [if_neg (by omega)]; rfl)
    · exact cel_at x2 rfl rfl rfl (fun j => by unfold κ00; rw [if_pos (by decide), if_neg (by omega), if_neg (by omega), if_neg (by omega)]) (fun j => rfl)
    · exact cel_at x3 rfl rfl rfl (fun j => by
        match j with
        | 0 => rfl
        | 1 => rfl
        | 2 => rfl
        | 3 => rfl
        | (n9 + 4) => unfold κ00 up; rw [if_pos (by decide), if_neg (by omega), if_neg (by omega), if_neg (by omega), if_neg (by omega), if_neg (by omega)]) (fun j => by
        match j with
        | 0 => rfl
        | 1 => rfl
        | 2 => rfl
        | 3 => rfl
        | 4 => exact congrArg some ((gA0_p b (q := 0) (r := 0) (by decide)).trans (show b + 6 + 9 * 0 + 0 = b + 6 by omega))
        | 5 => exact congrArg some ((gA0_p b (q := 1) (r := 0) (by decide)).trans (show b + 6 + 9 * 1 + 0 = b + 15 by omega))
        | 6 => exact congrArg some ((gA0_p b (q := 2) (r := 0) (by decide)).trans (show b + 6 + 9 * 2 + 0 = b + 24 by omega))
        | (n9 + 7) => unfold up; rw [if_neg (by omega), if_neg (by omega), if_neg (by omega), if_neg (by omega), if_neg (by omega)]; rfl)
    · exact cel_at x4 rfl rfl rfl (fun j => by unfold κ00; rw [if_pos (by decide), if_neg (by omega), if_neg (by omega), if_neg (by omega)]) (fun j => rfl)
    · exact cel_at x5 rfl rfl rfl (fun j => by unfold κ00; rw [if_pos (by decide), if_neg (by omega), if_neg (by omega), if_neg (by omega)]) (fun j => by show (if j < 0 then some (idP (3 + j)) else none).map _ = none; rw [if_neg (by omega)]; rfl)
    · exact cel_at x6 rfl rfl rfl (fun j => by unfold κ00; rw [if_pos (by decide), if_neg (by omega), if_neg (by omega), if_neg (by omega)]) (fun j => by
        match j with
        | 0 => rfl
        | 1 => rfl
        | 2 => rfl
        | 3 => rfl
        | 4 => rfl
        | 5 => rfl
        | (n9 + 6) => unfold up; rw [if_neg (by omega), if_neg (by omega), if_neg (by omega), if_neg (by omega), if_neg (by omega), if_neg (by omega)]; rfl)
    · exact cel_at x7 rfl rfl rfl (fun j => by unfold κ00; rw [if_pos (by decide), if_neg (by omega), if_neg (by omega), if_neg (by omega)]) (fun j => by
        match j with
        | 0 => rfl
        | 1 => rfl
        | (n9 + 2) => unfold up; rw [if_neg (by omega), if_neg (by omega)]; rfl)
    · exact cel_at x8 rfl rfl rfl (fun j => by unfold κ00; rw [if_pos (by decide), if_neg (by omega), if_neg (by omega), if_neg (by omega)]) (fun j => rfl)
    · exact cel_at x9 rfl rfl rfl (fun j => by unfold κ00; rw [if_pos (by decide), if_neg (by omega), if_neg (by omega), if_neg (by omega)]) (fun j => rfl)
    · exact cel_at x10 rfl rfl rfl (fun j => by unfold κ00; rw [if_pos (by decide), if_neg (by omega), if_neg (by omega), if_neg (by omega)]) (fun j => rfl)
    · exact cel_at x11 rfl rfl rfl (fun j => by unfold κ00; rw [if_pos (by decide), if_neg (by omega), if_neg (by omega), if_neg (by omega)]) (fun j => rfl)
    · exact cel_at x12 rfl rfl rfl (fun j => by unfold κ00; rw [if_pos (by decide), if_neg (by omega), if_neg (by omega), if_neg (by omega)]) (fun j => rfl)
  · obtain ⟨q, r, hr, rfl⟩ : ∃ q r, r < 9 ∧ i = 20 + 9 * q + r := ⟨(i - 20) / 9, (i - 20) % 9, by omega, by omega⟩
    have hq : q < 3 := by omega
    exact cel_at (x.pic hq r hr) (gA0_p b hr) (kd_r hr) (ln_r hr) (fun j => κ_r hr) (fun j => pt_r hr)
theorem RL.new (b : Nat) : RL (g00 b) κ00 sg0 := by
  refine ⟨⟨⟨⟨by show 0 < 3; decide, by show 1 < 3; decide, by show 2 < 3; decide, by show 0 ≠ 1; decide, by show 0 ≠ 2; decide, by show 1 ≠ 2; decide⟩, by show 0 ≤ 20; decide⟩, fun q p hq hp => ⟨by show 0 ≤ 4096; decide, ?_⟩, 1, 1, ⟨⟨by decide, by decide⟩, by decide, by decide⟩, rfl, rfl⟩, ⟨0, rfl, rfl, by decide, fun i hi => absurd hi (by omega)⟩, rfl, fun j hj => ?_, fun j hj => ?_, fun j hj => Or.inl ?_, 0, rfl, by decide, fun z => absurd z (by decide)⟩
  · have e : idL q p = 20 + 9 * q + (3 + p) := by unfold idL; omega
    rw [e, κ_r (by omega)]
    rcases (show p = 0 ∨ p = 1 ∨ p = 2 by omega) with rfl | rfl | rfl <;> rfl
  · unfold κ00 sg0
    rw [if_pos (by decide), if_neg (by omega), if_neg (by omega), if_neg (by omega), if_neg (by omega), if_neg (by omega)]
  · unfold sg0
    rw [if_neg (by omega), if_pos ⟨rfl, hj⟩]
  · unfold sg0
    rw [if_neg (by omega), if_neg (by omega)]
    rfl
theorem MI9.rep {s0 : State} {m : Nat} {h : Mem} (x : MI9 m h) (w : WV s0 h) : MRep s0 h m sg0 := by
  obtain ⟨⟨a1, a2, a3, a4⟩, b⟩ := x
  refine ⟨w, a1, fun k hk hz => ?_, fun k hk hz => ?_⟩
  · rw [a3 k]
    unfold up sg0
    by_cases e : k = 6
    · rw [if_pos e, if_pos ⟨e, rfl⟩]
    · rw [if_neg e, if_neg (fun z => e z.1), if_neg (fun z => by rw [z.1] at hz; exact absurd hz (by decide))]
  · obtain ⟨c1, c2, c3, c4⟩ := b k hk hz
    refine ⟨(a4 k).trans (if_neg hz), c1, c2, fun j hj => (c3 j).trans ?_⟩
    show _ = sg0 k j
    unfold sg0
    rw [if_neg (fun z => by rw [z.1] at hz; exact hz rfl)]

