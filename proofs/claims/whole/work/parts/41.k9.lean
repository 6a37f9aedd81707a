/-! ===== longer dots ===== -/
def rzG (g : Gh) (i a n : Nat) : Gh := (fun j => if j = i then a else gA g j, fun j => if j = i then n else gL g j, gN g, gT g, gO g, gC g, gX g)
theorem rz_A {g : Gh} {i a n j : Nat} (h : j ≠ i) : gA (rzG g i a n) j = gA g j := if_neg h
theorem rz_A1 {g : Gh} {i a n : Nat} : gA (rzG g i a n) i = a := if_pos rfl
theorem rz_L {g : Gh} {i a n j : Nat} (h : j ≠ i) : gL (rzG g i a n) j = gL g j := if_neg h
theorem rz_L1 {g : Gh} {i a n : Nat} : gL (rzG g i a n) i = n := if_pos rfl
theorem rz_pt {g : Gh} {i a n x j : Nat} : ptr (rzG g i a n) x j = ptr g x j := rfl
theorem tri_s (k : Nat) : tri (k + 1) = tri k + (k + 1) := by
  unfold tri
  have e : (k + 1) * (k + 1 + 1) = k * (k + 1) + 2 * (k + 1) := by rw [← Nat.add_mul, Nat.mul_comm]
  rw [e]
  omega
theorem tri_m {a b : Nat} (h : a ≤ b) : tri a ≤ tri b := Nat.div_le_div_right (Nat.mul_le_mul h (by omega))
theorem wU_s {p len k : Nat} (h : len < 64 * k) (hk : k ≤ if p = 0 then 64 else 16) : wU p (64 * k) + 64 * k ≤ wU p len := by
  unfold wU
  have e : 64 * k / 64 = k := by omega
  rw [e]
  obtain ⟨k', rfl⟩ : ∃ k', k = k' + 1 := ⟨k - 1, by omega⟩
  have h1 : tri (len / 64) ≤ tri k' := tri_m (by omega)
  have h2 := tri_m hk
  rw [tri_s] at h2 ⊢
  omega
theorem wN_s {p len k : Nat} (h : len < 64 * k) (hk : k ≤ if p = 0 then 64 else 16) : wN p (64 * k) + 1 ≤ wN p len := by
  unfold wN
  omega
theorem id_inj {q p q2 p2 : Nat} (hp : p < 3) (hp2 : p2 < 3) (h : idD q p = idD q2 p2) : q = q2 ∧ p = p2 := by unfold idD at h; omega
theorem rz_U {g : Gh} {q p a k : Nat} (hG : gC g ≤ 20) (hq : q < 3 + gC g) (hp : p < 3) (h : gL g (idD q p) < 64 * k) (hk : k ≤ if p = 0 then 64 else 16) : ptU (rzG g (idD q p) a (64 * k)) + 64 * k ≤ ptU g := by
  refine smN_u (q := q) 23 (by omega) (fun i hi => ?_) ?_
  · unfold pcU
    have e2 : ∀ p2, p2 < 3 → gL (rzG g (idD q p) a (64 * k)) (idD i p2) = gL g (idD i p2) := fun p2 hp2 => rz_L (fun z => hi (id_inj hp2 hp z).1)
    rw [e2 0 (by decide), e2 1 (by decide), e2 2 (by decide)]
    rfl
  · unfold pcU
    rw [if_pos (show q < 3 + gC (rzG g (idD q p) a (64 * k)) from hq), if_pos hq]
    have h1 := wU_s h hk
    have e2 : ∀ p2, p2 < 3 → p2 ≠ p → gL (rzG g (idD q p) a (64 * k)) (idD q p2) = gL g (idD q p2) := fun p2 hp2 hne => rz_L (fun z => hne (id_inj hp2 hp z).2)
    rcases (show p = 0 ∨ p = 1 ∨ p = 2 by omega) with rfl | rfl | rfl
    · rw [rz_L1, e2 1 (by decide) (by decide), e2 2 (by decide) (by decide)]; omega
    · rw [rz_L1, e2 0 (by decide) (by decide), e2 2 (by decide) (by decide)]; omega
    · rw [rz_L1, e2 0 (by decide) (by decide), e2 1 (by decide) (by decide)]; omega
theorem rz_N {g : Gh} {q p a k : Nat} (hG : gC g ≤ 20) (hq : q < 3 + gC g) (hp : p < 3) (h : gL g (idD q p) < 64 * k) (hk : k ≤ if p = 0 then 64 else 16) : ptN (rzG g (idD q p) a (64 * k)) + 1 ≤ ptN g := by
  refine smN_u (q := q) 23 (by omega) (fun i hi => ?_) ?_
  · unfold pcN
    have e2 : ∀ p2, p2 < 3 → gL (rzG g (idD q p) a (64 * k)) (idD i p2) = gL g (idD i p2) := fun p2 hp2 => rz_L (fun z => hi (id_inj hp2 hp z).1)
    rw [e2 0 (by decide), e2 1 (by decide), e2 2 (by decide)]
    rfl
  · unfold pcN
    rw [if_pos (show q < 3 + gC (rzG g (idD q p) a (64 * k)) from hq), if_pos hq]
    have h1 := wN_s h hk
    have e2 : ∀ p2, p2 < 3 → p2 ≠ p → gL (rzG g (idD q p) a (64 * k)) (idD q p2) = gL g (idD q p2) := fun p2 hp2 hne => rz_L (fun z => hne (id_inj hp2 hp z).2)
    rcases (show p = 0 ∨ p = 1 ∨ p = 2 by omega) with rfl | rfl | rfl
    · rw [rz_L1, e2 1 (by decide) (by decide), e2 2 (by decide) (by decide)]; omega
    · rw [rz_L1, e2 0 (by decide) (by decide), e2 2 (by decide) (by decide)]; omega
    · rw [rz_L1, e2 0 (by decide) (by decide), e2 1 (by decide) (by decide)]; omega
/-- only a plane points to its dots -/
theorem pt_D {g : Gh} {i j q p : Nat} (hp : p < 3) (h : ptr g i j = some (idD q p)) : i = idL q p ∧ j = 3 := by
  unfold ptr at h
  split at h
  · exfalso
    unfold pt1 at h
    repeat' split at h
    all_goals first
      | (cases h; done)
      | (simp only [Option.some.injEq] at h; unfold idD at h; (try unfold idP at h); omega)
  · unfold pt2 at h
    have hd := Nat.div_add_mod (i - 20) 9
    repeat' split at h
    all_goals first
      | (cases h; done)
      | (simp only [Option.some.injEq] at h; unfold idD at h; exfalso; omega)
      | (simp only [Option.some.injEq] at h; unfold idD at h; unfold idL; exact ⟨by omega, rfl⟩)
theorem pt_D0 {g : Gh} {q p j : Nat} (hp : p < 3) : ptr g (idD q p) j = none := by
  unfold ptr idD
  rw [if_neg (by omega)]
  unfold pt2
  rw [show (26 + 9 * q + p - 20) % 9 = 6 + p by omega]
  rcases (show p = 0 ∨ p = 1 ∨ p = 2 by omega) with rfl | rfl | rfl <;> rfl
theorem CF.rz {s0 : State} {c : Cx} {hB h : Mem} {g : Gh} {κ : Sg} {q p k n : Nat} (hC : CF s0 c hB h g κ) (hq : q < 3 + gC g) (hp : p < 3) (hn : n = 64 * k) (hl : gL g (idD q p) < n) (hk : k ≤ if p = 0 then 64 else 16) : CF s0 c hB (sR (nw h 11 n n) (gA g (idL q p)) 3 (some (mN h))) (rzG g (idD q p) (mN h) n) (sa κ (idD q p) (fun _ => 0)) := by
  subst hn
  obtain ⟨⟨⟨hW, hG, hinj, hcel, hmm⟩, hb1, hb2⟩, hf⟩ := hC
  have hLa := hcel _ (al_L hq hp)
  have hne : ∀ i, al g i → gA g i ≠ mN h := fun i hi => by have := (hcel i hi).1.2.2; omega
  have hfr : frc c h (sR (nw h 11 (64 * k) (64 * k)) (gA g (idL q p)) 3 (some (mN h))) := by
    refine (frc_nw (kd := 11) (len := 64 * k) (n := 64 * k) ⟨hmm.2, by omega⟩).trans (fun b hb => ⟨rfl, rfl, fun _ => rfl, fun j => ?_, fun _ => rfl⟩)
    rw [mR_sR, if_neg]
    rintro ⟨e, -⟩
    have h1 := hLa.1.1
    have h2 := hLa.1.2.1
    omega
  refine ⟨⟨⟨hW.fr hfr, hG, ?_, ?_, hmm.1, ?_⟩, ?_, ?_⟩, hf.trans hfr⟩
  · intro i j hi hj e
    have hi' : al g i := hi
    have hj' : al g j := hj
    by_cases e1 : i = idD q p <;> by_cases e2 : j = idD q p
    · rw [e1, e2]
    · rw [e1, rz_A1, rz_A e2] at e
      exact absurd e.symm (hne j hj')
    · rw [e2, rz_A1, rz_A e1] at e
      exact absurd e (hne i hi')
    · rw [rz_A e1, rz_A e2] at e
      exact hinj i j hi' hj' e
  · intro i hi
    have hi' : al g i := hi
    by_cases e1 : i = idD q p
    · subst e1
      unfold cel
      rw [rz_A1]
      have e5 : gA g (idL q p) ≠ mN h := hne _ (al_L hq hp)
      refine ⟨⟨by omega, by omega, by show mN h < mN h + 1; omega⟩, ?_, ?_, fun j => ?_, fun j => ?_⟩
      · rw [mK_sR, mK_nw, if_pos rfl, kd_D q hp]
      · rw [mL_sR, mL_nw, if_pos rfl, ln_D _ q hp, rz_L1]
      · rw [mI_sR, mI_nw, if_pos rfl, sa_at]
      · rw [mR_sR, if_neg (fun z => e5 z.1.symm), mR_nw, if_pos rfl, pt_D0 hp]
        rfl
    · obtain ⟨b1, b2, b3, b4, b5⟩ := hcel i hi'
      have e5 := hne i hi'
      unfold cel
      rw [rz_A e1]
      refine ⟨⟨b1.1, b1.2.1, by show gA g i < mN h + 1; have := b1.2.2; omega⟩, ?_, ?_, fun j => ?_, fun j => ?_⟩
      · rw [mK_sR, mK_nw, if_neg e5]; exact b2
      · rw [mL_sR, mL_nw, if_neg e5, b3]
        unfold lnI
        rw [rz_L e1]
      · rw [mI_sR, mI_nw, if_neg e5, b4, sa_k e1]
      · rw [mR_sR, rz_pt]
        by_cases e6 : i = idL q p ∧ j = 3
        · rw [if_pos ⟨by rw [e6.1], e6.2⟩, e6.1, e6.2, pt_L g q hp]
          show _ = some (gA (rzG g (idD q p) (mN h) (64 * k)) (idD q p))
          rw [rz_A1]
        · rw [if_neg (fun z => e6 ⟨hinj i _ hi' (al_L hq hp) z.1, z.2⟩), mR_nw, if_neg e5, b5]
          cases hpt : ptr g i j with
          | none => rfl
          | some t =>
            show some (gA g t) = some (gA (rzG g (idD q p) (mN h) (64 * k)) t)
            rw [rz_A]
            intro e7
            rw [e7] at hpt
            exact e6 (pt_D hp hpt)
  · show c.2.1 + 16 ≤ mN h + 1
    omega
  · have := rz_N (a := mN h) hG.2 hq hp hl hk
    show mN h + 1 + ptN (rzG g (idD q p) (mN h) (64 * k)) ≤ c.2.2.1 + gX g
    omega
  · have := rz_U (a := mN h) hG.2 hq hp hl hk
    show mU h + 64 * k + ptU (rzG g (idD q p) (mN h) (64 * k)) ≤ c.2.2.2 + 6 * gX g
    omega

/-- what resizing a plane leaves -/
def rzP (A B q p : Nat) (g : Gh) (κ : Sg) (g' : Gh) (κ' : Sg) : Prop :=
  (gN g' = gN g ∧ gT g' = gT g ∧ gO g' = gO g ∧ gC g' = gC g ∧ gX g' = gX g) ∧ (∀ i, i ≠ idD q p → gA g' i = gA g i ∧ gL g' i = gL g i) ∧ (wdN A p * wdN B p ≤ gL g' (idD q p) ∧ gL g' (idD q p) ≤ 4096) ∧ (∀ i, i ≠ idD q p → i ≠ idL q p → ∀ j, κ' i j = κ i j) ∧ κ' (idL q p) 0 = κ (idL q p) 0 ∧ κ' (idL q p) 1 = nI (wdN A p) ∧ κ' (idL q p) 2 = nI (wdN B p)
theorem wd_k {A B p : Nat} (hA : okAB A B) : ∃ k, wdN A p * wdN B p = 64 * k ∧ k ≤ if p = 0 then 64 else 16 := by
  unfold wdN
  have h := Nat.mul_le_mul hA.1.2 hA.2.2
  split
  · exact ⟨4 * (A * B), by rw [Nat.mul_mul_mul_comm]; omega, by omega⟩
  · exact ⟨A * B, by rw [Nat.mul_mul_mul_comm], h⟩
theorem su_j {σ : Sg} {k j a b : Nat} {v : Int32} (h : b ≠ j) : su σ k j v a b = σ a b := by unfold su; rw [if_neg (fun z => h z.2)]
theorem l_resize {s0 : State} {l : Launch} {c : Cx} {g : Gh} {κ : Sg} {q p A B : Nat} (hq : q < 3 + gC g) (hp : p < 3) (hA : okAB A B) (hsd : κ (idL q p) 0 = nI (szN p)) (hln : gL g (idD q p) ≤ 4096) : KC s0 l M_L_resize c [.ref (gA g (idL q p)), .int (nI A), .int (nI B)] g κ (fun o g' κ' => o = .inl none ∧ rzP A B q p g κ g' κ') := by
  refine k_in (by decide) rfl rfl (Nat.le_of_ble_eq_true rfl) (fun hB => ?_)
  obtain ⟨k, hk1, hk2⟩ := wd_k (p := p) hA
  have hww : wdN A p * wdN B p = szN p * A * (szN p * B) := by rw [wdN_sz, wdN_sz]
  have hk3 : k ≤ 64 := by split at hk2 <;> omega
  rw [hww] at hk1
  refine k_aload_n d_L_resize_0 rfl rfl ?_
  refine k_aload_n d_L_resize_1 rfl rfl ?_
  refine k_getE d_L_resize_2 fL_15 rfl (al_L hq hp) (kd_L q hp) hsd ?_
  refine k_iload_n d_L_resize_5 rfl rfl ?_
  refine k_imulN d_L_resize_6  ?_
  refine k_put d_L_resize_7 fL_19 rfl (al_L hq hp) (kd_L q hp) rfl rfl rfl ?_
  refine k_aload_n d_L_resize_10 rfl rfl ?_
  refine k_aload_n d_L_resize_11 rfl rfl ?_
  refine k_getE d_L_resize_12 fL_15 rfl (al_L hq hp) (kd_L q hp) ((su_j (show (0 : Nat) ≠ 1 by decide)).trans hsd) ?_
  refine k_iload_n d_L_resize_15 rfl rfl ?_
  refine k_imulN d_L_resize_16  ?_
  refine k_put d_L_resize_17 fL_22 rfl (al_L hq hp) (kd_L q hp) rfl rfl rfl ?_
  refine k_aload_n d_L_resize_20 rfl rfl ?_
  refine k_getR d_L_resize_21 fL_9 rfl (al_L hq hp) (kd_L q hp) (pt_L g q hp) ?_
  refine k_alen d_L_resize_24 (al_D hq hp) (kd_D q hp) (ln_D g q hp) ?_
  refine k_aload_n d_L_resize_25 rfl rfl ?_
  refine k_getE d_L_resize_26 fL_19 rfl (al_L hq hp) (kd_L q hp) ((su_j (show (1 : Nat) ≠ 2 by decide)).trans (su_at _ _ _ _)) ?_
  refine k_aload_n d_L_resize_29 rfl rfl ?_
  refine k_getE d_L_resize_30 fL_22 rfl (al_L hq hp) (kd_L q hp) (su_at _ _ _ _) ?_
  refine k_imulN d_L_resize_33  ?_
  refine k_icmp_ge (tgt := 52) d_L_resize_34 (by decide) (fun c_34 => ?_) (fun c_34 => ?_)
  · skip
    refine k_vret d_L_resize_52 rfl ?_
    refine ⟨rfl, ⟨rfl, rfl, rfl, rfl, rfl⟩, fun i hi => ⟨rfl, rfl⟩, ⟨?_, hln⟩, fun i h1 h2 j => ?_, ?_, ?_, ?_⟩
    · rw [hww]
      exact (nI_leI (by omega) (by omega)).mp c_34
    · rw [su_k h2, su_k h2]
    · rw [su_j (by decide), su_j (by decide)]
    · rw [su_j (by decide), su_at, wdN_sz]
    · rw [su_at, wdN_sz]
  · skip
    have hlt : gL g (idD q p) < szN p * A * (szN p * B) := Nat.lt_of_not_le (fun h9 => c_34 (nI_le h9 (by omega)))
    refine k_aload_n d_L_resize_37 rfl rfl ?_
    refine k_aload_n d_L_resize_38 rfl rfl ?_
    refine k_getE d_L_resize_39 fL_19 rfl (al_L hq hp) (kd_L q hp) ((su_j (show (1 : Nat) ≠ 2 by decide)).trans (su_at _ _ _ _)) ?_
    refine k_aload_n d_L_resize_42 rfl rfl ?_
    refine k_getE d_L_resize_43 fL_22 rfl (al_L hq hp) (kd_L q hp) (su_at _ _ _ _) ?_
    refine k_imulN d_L_resize_46  ?_
    refine fun h hM => ?_
    have hM2 := hM.rz hq hp hk1 (by omega) hk2
    obtain ⟨b1, b2, b3, b4, b5⟩ := hM.1.1.2.2.2.1 _ (al_L hq hp)
    refine q_newarray (kd := 11) d_L_resize_47 rfl (by decide) w_aint (nI_pos (by omega)) (by rw [nI_clamp (by omega)]; omega) ?_
    rw [nI_clamp (show szN p * A * (szN p * B) < 2 ^ 31 by omega)]
    refine q_putR d_L_resize_49 fL_9 rfl ?_ rfl rfl (Or.inl rfl) ?_
    · rw [mK_nw, if_neg (by have := b1.2.2; omega), b2, kd_L q hp]
    refine q_vret d_L_resize_52 rfl ?_
    refine ⟨_, _, hM2, rfl, ⟨rfl, rfl, rfl, rfl, rfl⟩, fun i hi => ⟨rz_A hi, rz_L hi⟩, ?_, fun i h1 h2 j => ?_, ?_, ?_, ?_⟩
    · rw [rz_L1, hww]
      omega
    · rw [sa_k h1, su_k h2, su_k h2]
    · rw [sa_k (id_LD q p q p hp hp), su_j (by decide), su_j (by decide)]
    · rw [sa_k (id_LD q p q p hp hp), su_j (by decide), su_at, wdN_sz]
    · rw [sa_k (id_LD q p q p hp hp), su_at, wdN_sz]

