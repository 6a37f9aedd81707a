/-! ===== new pictures ===== -/
def plM (h : Mem) (a : Nat) (s : Int32) : Mem := sI (sR (nw h 11 0 0) a 3 (some (mN h))) a 0 s
def stM2 (h : Mem) (arr k : Nat) (s : Int32) : Mem := sR (plM (nw h 3 0 4) (mN h) s) arr k (some (mN h))
def p3M (h : Mem) : Mem := stM2 (stM2 (stM2 (nw h 15 3 3) (mN h) 0 (nI 16)) (mN h) 1 (nI 8)) (mN h) 2 (nI 8)
def tlM (h3 : Mem) (a arr : Nat) : Mem := sR (nw (sR h3 a 0 (some arr)) 11 4 4) a 1 (some (mN h3))
def picM (h : Mem) (a : Nat) : Mem := tlM (p3M h) a (mN h)
theorem stM2_N (h : Mem) (r k : Nat) (s : Int32) : mN (stM2 h r k s) = mN h + 2 := rfl
theorem stM2_K {h : Mem} {r k : Nat} {s : Int32} {x : Nat} (hx : x < mN h) : mK (stM2 h r k s) x = mK h x := by
  show (if x = mN h + 1 then 11 else if x = mN h then 3 else mK h x) = _
  rw [if_neg (by omega), if_neg (by omega)]
theorem stM2_L {h : Mem} {r k : Nat} {s : Int32} {x : Nat} (hx : x < mN h) : mL (stM2 h r k s) x = mL h x := by
  show (if x = mN h + 1 then 0 else if x = mN h then 0 else mL h x) = _
  rw [if_neg (by omega), if_neg (by omega)]

theorem q_L_init {s0 : State} {l : Launch} {h : Mem} {a : Nat} {s : Int32} (ha : a < mN h) (hk : mK h a = 3) : CQ s0 l M_L_init [.ref a, .int s] h (fun o h1 => o = .inl none ∧ h1 = plM h a s) := by
  have hne : a ≠ mN h := by omega
  have hk2 : mK (nw h 11 0 0) a = 3 := by rw [mK_nw, if_neg hne]; exact hk
  refine c_in (by decide) rfl rfl (Nat.le_of_ble_eq_true rfl) ?_
  refine q_aload_n d_L_init_0 rfl rfl ?_
  refine q_objinit d_L_init_1 lL_3 w_obj1 w_obj2 (Nat.le_of_ble_eq_true rfl) (by decide) ?_
  refine q_aload_n d_L_init_4 rfl rfl ?_
  refine q_iconst (v := nI 0) d_L_init_5 (by decide) ?_
  refine q_newarray (kd := 11) d_L_init_6 rfl (by decide) w_aint (by decide) (by decide) ?_
  refine q_putR d_L_init_8 fL_9 rfl hk2 rfl rfl (Or.inl rfl) ?_
  refine q_aload_n d_L_init_11 rfl rfl ?_
  refine q_iload_n d_L_init_12 rfl rfl ?_
  refine q_putI d_L_init_13 fL_15 rfl hk2 rfl rfl (Or.inr ⟨rfl, rfl⟩) ?_
  refine q_vret d_L_init_16 rfl ?_
  exact ⟨rfl, rfl⟩
theorem q_mkPlane {s0 : State} {l : Launch} {h0 h : Mem} {pc arr k : Nat} {s : Int32} {n : Int} {Lc : List (Option Value)} {st : List Value} {Q : Out → Mem → Prop} (d0 : decode (iC M_P_init) pc = .ok (.new 7, 3)) (d3 : decode (iC M_P_init) (pc + 3) = .ok (.dup, 1)) (d4 : decode (iC M_P_init) (pc + 4) = .ok (.bipush n, 2)) (hs : (Int8.ofInt n).toInt32 = s) (d6 : decode (iC M_P_init) (pc + 6) = .ok (.invokespecial 9, 3)) (d9 : decode (iC M_P_init) (pc + 9) = .ok (.aastore, 1)) (hw : ((Value.int (nI k) :: Value.ref arr :: st).map fun v => v.category).sum ≤ 7) (ha : arr < mN h) (hA : mK h arr = 15) (hL : mL h arr = 3) (hk : k < 3) (kk : RQ s0 l M_P_init h0 (pc + 10) Lc st (stM2 h arr k s) Q) : RQ s0 l M_P_init h0 pc Lc (.int (nI k) :: .ref arr :: st) h Q := by
  refine q_new (ci := 2) d0 (by decide) cP_7 ?_
  refine q_dup d3 rfl ?_
  refine q_bipush (v := s) d4 hs ?_
  refine q_callI (As := [_]) (Q1 := fun h9 => h9 = plM (nw h 3 0 4) (mN h) s) d6 lP_9 mc_L_init rfl rfl rfl rfl (by rw [List.map_cons, List.sum_cons]; have h9 : (Value.ref (mN h)).category = 1 := rfl; omega) (by decide) (q_L_init (h := nw h 3 0 4) (a := mN h) (Nat.lt_succ_self _) (by rw [mK_nw, if_pos rfl])) (fun h9 q9 => ?_)
  subst q9
  refine q_aastore (ci := 2) d9 (by decide) (a := arr) (v := mN h) ?_ ?_ ?_ ?_
  · show (if arr = mN h + 1 then 11 else if arr = mN h then 3 else mK h arr) = 15
    rw [if_neg (by omega), if_neg (by omega)]
    exact hA
  · show vp_in (nI k) (if arr = mN h + 1 then 0 else if arr = mN h then 0 else mL h arr)
    rw [if_neg (by omega), if_neg (by omega), hL]
    exact vp_in_nI hk (by decide)
  · show (if mN h = mN h + 1 then 11 else if mN h = mN h then 3 else mK h (mN h)) = 3
    rw [if_neg (by omega), if_pos rfl]
  · rw [nI_clamp (by omega)]
    exact kk
theorem q_P_tail {s0 : State} {l : Launch} {h0 h3 : Mem} {a arr : Nat} (k3 : mK h3 a = 2) (ha : a < mN h3) : RQ s0 l M_P_init h0 45 (ent [.ref a] (iL M_P_init)) [.ref arr, .ref a] h3 (fun o h1 => o = .inl none ∧ h1 = tlM h3 a arr) := by
  refine q_putR d_P_init_45 fP_12 rfl k3 rfl rfl (Or.inr ⟨rfl, rfl⟩) ?_
  refine q_aload_n d_P_init_48 rfl rfl ?_
  refine q_iconst (v := nI 4) d_P_init_49 (by decide) ?_
  refine q_newarray (kd := 11) d_P_init_50 rfl (by decide) w_aint (by decide) (by decide) ?_
  refine q_putR d_P_init_52 fP_18 rfl ?_ rfl rfl (Or.inr ⟨rfl, rfl⟩) ?_
  · show (if a = mN h3 then 11 else mK h3 a) = 1 + 1
    rw [if_neg (by omega)]
    exact k3
  refine q_vret d_P_init_55 rfl ?_
  exact ⟨rfl, rfl⟩
theorem q_P_init {s0 : State} {l : Launch} {h : Mem} {a : Nat} (ha : a < mN h) (hk : mK h a = 2) : CQ s0 l M_P_init [.ref a] h (fun o h1 => o = .inl none ∧ h1 = picM h a) := by
  have hne : a ≠ mN h := by omega
  have e0 : mN (nw h 15 3 3) = mN h + 1 := rfl
  have f0 : mK (nw h 15 3 3) (mN h) = 15 := by rw [mK_nw, if_pos rfl]
  have g0 : mL (nw h 15 3 3) (mN h) = 3 := by rw [mL_nw, if_pos rfl]
  have k0 : mK (nw h 15 3 3) a = 2 := by rw [mK_nw, if_neg hne]; exact hk
  refine c_in (by decide) rfl rfl (Nat.le_of_ble_eq_true rfl) ?_
  refine q_aload_n d_P_init_0 rfl rfl ?_
  refine q_objinit d_P_init_1 lP_1 w_obj1 w_obj2 (Nat.le_of_ble_eq_true rfl) (by decide) ?_
  refine q_aload_n d_P_init_4 rfl rfl ?_
  refine q_iconst (v := nI 3) d_P_init_5 (by decide) ?_
  refine q_anewarray (ci := 2) d_P_init_6 (by decide) cP_7 w_over2 (by decide) (by decide) ?_
  refine q_dup d_P_init_9 rfl ?_
  refine q_iconst (v := nI 0) d_P_init_10 (by decide) ?_
  refine q_mkPlane (h := nw h 15 3 3) (s := nI 16) (k := 0) d_P_init_11 d_P_init_14 d_P_init_15 (by decide) d_P_init_17 d_P_init_20 (Nat.le_of_ble_eq_true rfl) (by rw [e0]; omega) f0 g0 (by decide) ?_
  have e1 : mN (stM2 (nw h 15 3 3) (mN h) 0 (nI 16)) = mN h + 3 := by rw [stM2_N, e0]
  have f1 : mK (stM2 (nw h 15 3 3) (mN h) 0 (nI 16)) (mN h) = 15 := by rw [stM2_K (by rw [e0]; omega)]; exact f0
  have g1 : mL (stM2 (nw h 15 3 3) (mN h) 0 (nI 16)) (mN h) = 3 := by rw [stM2_L (by rw [e0]; omega)]; exact g0
  have k1 : mK (stM2 (nw h 15 3 3) (mN h) 0 (nI 16)) a = 2 := by rw [stM2_K (by rw [e0]; omega)]; exact k0
  refine q_dup d_P_init_21 rfl ?_
  refine q_iconst (v := nI 1) d_P_init_22 (by decide) ?_
  refine q_mkPlane (s := nI 8) (k := 1) d_P_init_23 d_P_init_26 d_P_init_27 (by decide) d_P_init_29 d_P_init_32 (Nat.le_of_ble_eq_true rfl) (by rw [e1]; omega) f1 g1 (by decide) ?_
  have e2 : mN (stM2 (stM2 (nw h 15 3 3) (mN h) 0 (nI 16)) (mN h) 1 (nI 8)) = mN h + 5 := by rw [stM2_N, e1]
  have f2 : mK (stM2 (stM2 (nw h 15 3 3) (mN h) 0 (nI 16)) (mN h) 1 (nI 8)) (mN h) = 15 := by rw [stM2_K (by rw [e1]; omega)]; exact f1
  have g2 : mL (stM2 (stM2 (nw h 15 3 3) (mN h) 0 (nI 16)) (mN h) 1 (nI 8)) (mN h) = 3 := by rw [stM2_L (by rw [e1]; omega)]; exact g1
  have k2 : mK (stM2 (stM2 (nw h 15 3 3) (mN h) 0 (nI 16)) (mN h) 1 (nI 8)) a = 2 := by rw [stM2_K (by rw [e1]; omega)]; exact k1
  refine q_dup d_P_init_33 rfl ?_
  refine q_iconst (v := nI 2) d_P_init_34 (by decide) ?_
  refine q_mkPlane (s := nI 8) (k := 2) d_P_init_35 d_P_init_38 d_P_init_39 (by decide) d_P_init_41 d_P_init_44 (Nat.le_of_ble_eq_true rfl) (by rw [e2]; omega) f2 g2 (by decide) ?_
  have k3 : mK (stM2 (stM2 (stM2 (nw h 15 3 3) (mN h) 0 (nI 16)) (mN h) 1 (nI 8)) (mN h) 2 (nI 8)) a = 2 := by
    rw [stM2_K (by rw [e2]; omega)]
    exact k2
  have e3 : mN (stM2 (stM2 (stM2 (nw h 15 3 3) (mN h) 0 (nI 16)) (mN h) 1 (nI 8)) (mN h) 2 (nI 8)) = mN h + 7 := by
    rw [stM2_N, e2]
  exact q_P_tail k3 (by rw [e3]; omega)
/-- the nine cells of a new picture: new at a, and the constructor's eight -/
def newP (h : Mem) : Mem := picM (nw h 2 0 2) (mN h)
theorem newP_N (h : Mem) : mN (newP h) = mN h + 9 := rfl
theorem newP_U (h : Mem) : mU (newP h) = mU h + 21 := rfl
theorem newP_K (h : Mem) (b : Nat) : mK (newP h) b = if b = mN h + 8 then 11 else if b = mN h + 7 then 11 else if b = mN h + 6 then 3 else if b = mN h + 5 then 11 else if b = mN h + 4 then 3 else if b = mN h + 3 then 11 else if b = mN h + 2 then 3 else if b = mN h + 1 then 15 else if b = mN h then 2 else mK h b := rfl
theorem newP_L (h : Mem) (b : Nat) : mL (newP h) b = if b = mN h + 8 then 4 else if b = mN h + 7 then 0 else if b = mN h + 6 then 0 else if b = mN h + 5 then 0 else if b = mN h + 4 then 0 else if b = mN h + 3 then 0 else if b = mN h + 2 then 0 else if b = mN h + 1 then 3 else if b = mN h then 0 else mL h b := rfl
theorem newP_J (h : Mem) (b j : Nat) : mJ (newP h) b j = if b = mN h + 8 then 0 else if b = mN h + 7 then 0 else if b = mN h + 6 then 0 else if b = mN h + 5 then 0 else if b = mN h + 4 then 0 else if b = mN h + 3 then 0 else if b = mN h + 2 then 0 else if b = mN h + 1 then 0 else if b = mN h then 0 else mJ h b j := rfl
theorem newP_I (h : Mem) (b j : Nat) : mI (newP h) b j = if b = mN h + 8 then 0 else if b = mN h + 6 ∧ j = 0 then nI 8 else if b = mN h + 7 then 0 else if b = mN h + 6 then 0 else if b = mN h + 4 ∧ j = 0 then nI 8 else if b = mN h + 5 then 0 else if b = mN h + 4 then 0 else if b = mN h + 2 ∧ j = 0 then nI 16 else if b = mN h + 3 then 0 else if b = mN h + 2 then 0 else if b = mN h + 1 then 0 else if b = mN h then 0 else mI h b j := rfl
theorem newP_R (h : Mem) (b j : Nat) : mR (newP h) b j = if b = mN h ∧ j = 1 then some (mN h + 8) else if b = mN h + 8 then none else if b = mN h ∧ j = 0 then some (mN h + 1) else if b = mN h + 1 ∧ j = 2 then some (mN h + 6) else if b = mN h + 6 ∧ j = 3 then some (mN h + 7) else if b = mN h + 7 then none else if b = mN h + 6 then none else if b = mN h + 1 ∧ j = 1 then some (mN h + 4) else if b = mN h + 4 ∧ j = 3 then some (mN h + 5) else if b = mN h + 5 then none else if b = mN h + 4 then none else if b = mN h + 1 ∧ j = 0 then some (mN h + 2) else if b = mN h + 2 ∧ j = 3 then some (mN h + 3) else if b = mN h + 3 then none else if b = mN h + 2 then none else if b = mN h + 1 then none else if b = mN h then none else mR h b j := rfl
/-- below, nothing has changed -/
theorem newP_b (h : Mem) {b : Nat} (hb : b < mN h) : mK (newP h) b = mK h b ∧ mL (newP h) b = mL h b ∧ (∀ j, mI (newP h) b j = mI h b j) ∧ (∀ j, mR (newP h) b j = mR h b j) ∧ ∀ j, mJ (newP h) b j = mJ h b j := by
  have e0 : b ≠ mN h := by omega
  have e1 : b ≠ mN h + 1 := by omega
  have e2 : b ≠ mN h + 2 := by omega
  have e3 : b ≠ mN h + 3 := by omega
  have e4 : b ≠ mN h + 4 := by omega
  have e5 : b ≠ mN h + 5 := by omega
  have e6 : b ≠ mN h + 6 := by omega
  have e7 : b ≠ mN h + 7 := by omega
  have e8 : b ≠ mN h + 8 := by omega
  refine ⟨?_, ?_, fun j => ?_, fun j => ?_, fun j => ?_⟩
  · rw [newP_K]; simp only [e0, e1, e2, e3, e4, e5, e6, e7, e8, if_false]
  · rw [newP_L]; simp only [e0, e1, e2, e3, e4, e5, e6, e7, e8, if_false]
  · rw [newP_I]; simp only [e0, e1, e2, e3, e4, e5, e6, e7, e8, if_false, false_and]
  · rw [newP_R]; simp only [e0, e1, e2, e3, e4, e5, e6, e7, e8, if_false, false_and]
  · rw [newP_J]; simp only [e0, e1, e2, e3, e4, e5, e6, e7, e8, if_false]
/-- where the new picture's cells lie, by the rest of their number -/
def nOf (r : Nat) : Nat := match r with | 0 => 0 | 1 => 1 | 2 => 8 | 3 => 2 | 4 => 4 | 5 => 6 | 6 => 3 | 7 => 5 | _ => 7
theorem nOf_lt (r : Nat) : nOf r < 9 := by unfold nOf; split <;> decide
theorem nOf_inj : ∀ r, r < 9 → ∀ r', r' < 9 → nOf r = nOf r' → r = r' := by decide
/-- the ghost with one more kept picture -/
def gP (g : Gh) (a : Nat) : Gh := (fun i => if 47 + 9 * gC g ≤ i then a + nOf (i - (47 + 9 * gC g)) else gA g i, fun i => if 47 + 9 * gC g ≤ i then 0 else gL g i, gN g, gT g, gO g, gC g + 1, gX g)
def kP (κ : Sg) (b : Nat) : Sg := fun i j => if b ≤ i then (if i = b + 3 ∧ j = 0 then nI 16 else if i = b + 4 ∧ j = 0 then nI 8 else if i = b + 5 ∧ j = 0 then nI 8 else 0) else κ i j
theorem smN_c {f g : Nat → Nat} : ∀ n, (∀ i, i < n → f i = g i) → smN f n = smN g n
  | 0, _ => rfl
  | n + 1, h => by
    unfold smN
    rw [smN_c n (fun i hi => h i (by omega)), h n (by omega)]
theorem smN_u {f g : Nat → Nat} {q d : Nat} : ∀ n, q < n → (∀ i, i ≠ q → f i = g i) → f q + d ≤ g q → smN f n + d ≤ smN g n
  | 0, hq, _, _ => by omega
  | n + 1, hq, h, hd => by
    unfold smN
    by_cases e : q = n
    · subst e
      rw [smN_c (f := f) (g := g) q (fun i hi => h i (by omega))]
      omega
    · have := smN_u (f := f) (g := g) n (by omega) h hd
      rw [h n (fun z => e z.symm)]
      omega
theorem gP_U {g : Gh} {a : Nat} (hc : gC g < 20) : ptU (gP g a) + 21 ≤ ptU g := by
  refine smN_u (q := 3 + gC g) 23 (by omega) (fun i hi => ?_) ?_
  · unfold pcU
    have e : (i < 3 + gC (gP g a)) ↔ (i < 3 + gC g) := by show i < 3 + (gC g + 1) ↔ _; omega
    by_cases h : i < 3 + gC g
    · rw [if_pos h, if_pos (e.mpr h)]
      have e2 : ∀ p, p < 3 → gL (gP g a) (idD i p) = gL g (idD i p) := fun p hp => if_neg (by unfold idD; omega)
      rw [e2 0 (by decide), e2 1 (by decide), e2 2 (by decide)]
    · rw [if_neg h, if_neg (fun z => h (e.mp z))]
  · unfold pcU
    rw [if_pos (show 3 + gC g < 3 + gC (gP g a) from Nat.lt_succ_self _), if_neg (show ¬ 3 + gC g < 3 + gC g by omega)]
    have e2 : ∀ p, p < 3 → gL (gP g a) (idD (3 + gC g) p) = 0 := fun p hp => if_pos (by unfold idD; omega)
    rw [e2 0 (by decide), e2 1 (by decide), e2 2 (by decide)]
    omega
theorem gP_N {g : Gh} {a : Nat} (hc : gC g < 20) : ptN (gP g a) + 9 ≤ ptN g := by
  refine smN_u (q := 3 + gC g) 23 (by omega) (fun i hi => ?_) ?_
  · unfold pcN
    have e : (i < 3 + gC (gP g a)) ↔ (i < 3 + gC g) := by show i < 3 + (gC g + 1) ↔ _; omega
    by_cases h : i < 3 + gC g
    · rw [if_pos h, if_pos (e.mpr h)]
      have e2 : ∀ p, p < 3 → gL (gP g a) (idD i p) = gL g (idD i p) := fun p hp => if_neg (by unfold idD; omega)
      rw [e2 0 (by decide), e2 1 (by decide), e2 2 (by decide)]
    · rw [if_neg h, if_neg (fun z => h (e.mp z))]
  · unfold pcN
    rw [if_pos (show 3 + gC g < 3 + gC (gP g a) from Nat.lt_succ_self _), if_neg (show ¬ 3 + gC g < 3 + gC g by omega)]
    have e2 : ∀ p, p < 3 → gL (gP g a) (idD (3 + gC g) p) = 0 := fun p hp => if_pos (by unfold idD; omega)
    rw [e2 0 (by decide), e2 1 (by decide), e2 2 (by decide)]
    omega
/-- where references go: to what is there -/
theorem pt_in {g : Gh} (hG : okG g) {i j t : Nat} (hi : al g i) (h : ptr g i j = some t) : al g t := by
  unfold ptr at h
  split at h
  · unfold pt1 at h
    repeat' split at h
    all_goals first
      | (cases h; done)
      | (simp only [Option.some.injEq] at h; subst h; first | exact Or.inl (by decide) | (have := hG.1; unfold idP; right; omega) | (unfold idP; right; omega))
  · unfold pt2 at h
    have hm : (i - 20) % 9 < 9 := Nat.mod_lt _ (by decide)
    have hd := Nat.div_add_mod (i - 20) 9
    repeat' split at h
    all_goals first
      | (cases h; done)
      | (simp only [Option.some.injEq] at h; subst h; right; unfold al at hi; omega)

