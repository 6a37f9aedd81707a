/-! ===== pictures, the reel ===== -/
def CI (g : Gh) (κ : Sg) : Prop := ∀ q p, q < 3 + gC g → p < 3 → gL g (idD q p) ≤ 4096 ∧ κ (idL q p) 0 = nI (szN p)
def rzQ (A B q n : Nat) (g : Gh) (κ : Sg) (g' : Gh) (κ' : Sg) : Prop :=
  (gN g' = gN g ∧ gT g' = gT g ∧ gO g' = gO g ∧ gC g' = gC g ∧ gX g' = gX g) ∧ (∀ i, (∀ p, p < n → i ≠ idD q p) → gA g' i = gA g i ∧ gL g' i = gL g i) ∧ (∀ p, p < n → wdN A p * wdN B p ≤ gL g' (idD q p) ∧ gL g' (idD q p) ≤ 4096) ∧ (∀ i, (∀ p, p < n → i ≠ idD q p ∧ i ≠ idL q p) → ∀ j, κ' i j = κ i j) ∧ ∀ p, p < n → κ' (idL q p) 0 = κ (idL q p) 0 ∧ κ' (idL q p) 1 = nI (wdN A p) ∧ κ' (idL q p) 2 = nI (wdN B p)
theorem rzQ_0 {A B q : Nat} {g : Gh} {κ : Sg} : rzQ A B q 0 g κ g κ := ⟨⟨rfl, rfl, rfl, rfl, rfl⟩, fun _ _ => ⟨rfl, rfl⟩, fun p hp => absurd hp (by omega), fun _ _ _ => rfl, fun p hp => absurd hp (by omega)⟩
theorem rzQ_s {A B q n : Nat} {g g1 g2 : Gh} {κ κ1 κ2 : Sg} (hn : n < 3) (h1 : rzQ A B q n g κ g1 κ1) (h2 : rzP A B q n g1 κ1 g2 κ2) : rzQ A B q (n + 1) g κ g2 κ2 := by
  obtain ⟨⟨a1, a2, a3, a4, a5⟩, a6, a7, a8, a9⟩ := h1
  obtain ⟨⟨b1, b2, b3, b4, b5⟩, b6, b7, b8, b9, b10, b11⟩ := h2
  refine ⟨⟨b1.trans a1, b2.trans a2, b3.trans a3, b4.trans a4, b5.trans a5⟩, fun i hi => ?_, fun p hp => ?_, fun i hi j => ?_, fun p hp => ?_⟩
  · have x := b6 i (hi n (by omega))
    have y := a6 i (fun p hp => hi p (by omega))
    exact ⟨x.1.trans y.1, x.2.trans y.2⟩
  · by_cases e : p = n
    · rw [e]; exact b7
    · have x := b6 (idD q p) (by unfold idD; omega)
      rw [x.2]
      exact a7 p (by omega)
  · rw [b8 i (hi n (by omega)).1 (hi n (by omega)).2 j, a8 i (fun p hp => hi p (by omega)) j]
  · by_cases e : p = n
    · rw [e, b9, b10, b11]
      exact ⟨a8 (idL q n) (fun p hp => ⟨id_LD q n q p hn (by omega), by unfold idL; omega⟩) 0, rfl, rfl⟩
    · have x := b8 (idL q p) (id_LD q p q n (by omega) hn) (by unfold idL; omega)
      rw [x, x, x]
      exact a9 p (by omega)
theorem CI.rz {A B q : Nat} {g g' : Gh} {κ κ' : Sg} (h : CI g κ) (r : rzQ A B q 3 g κ g' κ') : CI g' κ' := by
  obtain ⟨⟨a1, a2, a3, a4, a5⟩, a6, a7, a8, a9⟩ := r
  intro q2 p hq hp
  rw [a4] at hq
  have h0 := h q2 p hq hp
  by_cases e : q2 = q
  · subst e
    exact ⟨(a7 p hp).2, (a9 p hp).1.trans h0.2⟩
  · rw [(a6 (idD q2 p) (fun p2 hp2 => by unfold idD; omega)).2, a8 (idL q2 p) (fun p2 hp2 => ⟨id_LD q2 p q p2 hp hp2, by unfold idL; omega⟩)]
    exact h0

theorem p_resize_l {s0 : State} {l : Launch} {c : Cx} {hB : Mem} {g : Gh} {κ : Sg} {q A B : Nat} (hq : q < 3 + gC g) (hA : okAB A B) (hCI : CI g κ) : ∀ (n i : Nat) (g1 : Gh) (κ1 : Sg), i + n = 3 → rzQ A B q i g κ g1 κ1 → KQ s0 l M_P_resize c hB 2 [some (.ref (gA g1 (idP q))), some (.int (nI A)), some (.int (nI B)), some (.int (nI i))] [] g1 κ1 (fun o g' κ' => o = .inl none ∧ rzQ A B q 3 g κ g' κ') := by
  intro n
  induction n with
  | zero =>
    intro i g1 κ1 hi hr
    have hq1 : q < 3 + gC g1 := by rw [hr.1.2.2.2.1]; exact hq
    refine k_iload_n d_P_resize_2 rfl rfl ?_
    refine k_aload_n d_P_resize_3 rfl rfl ?_
    refine k_getR d_P_resize_4 fP_12 rfl (al_P hq1) (kd_P q) (pt_P0 g1 q) ?_
    refine k_alenQ (ci := 2) d_P_resize_7 (by decide) (al_A hq1) (kd_A q) (ln_A g1 q) ?_
    refine k_icmp_ge (tgt := 28) d_P_resize_8 (by decide) (fun c_8 => ?_) (fun c_8 => ?_)
    · skip
      refine k_vret d_P_resize_28 rfl ?_
      have e3 : i = 3 := by omega
      subst e3
      exact ⟨rfl, hr⟩
    · exact absurd (nI_le (show 3 ≤ i by omega) (by omega)) c_8
  | succ n ih =>
    intro i g1 κ1 hi hr
    have hi3 : i < 3 := by omega
    have hq1 : q < 3 + gC g1 := by rw [hr.1.2.2.2.1]; exact hq
    have hs1 : κ1 (idL q i) 0 = nI (szN i) := (hr.2.2.2.1 (idL q i) (fun p hp => ⟨id_LD q i q p hi3 (by omega), by unfold idL; omega⟩) 0).trans (hCI q i hq hi3).2
    have hl1 : gL g1 (idD q i) ≤ 4096 := by rw [(hr.2.1 (idD q i) (fun p hp => by unfold idD; omega)).2]; exact (hCI q i hq hi3).1
    refine k_iload_n d_P_resize_2 rfl rfl ?_
    refine k_aload_n d_P_resize_3 rfl rfl ?_
    refine k_getR d_P_resize_4 fP_12 rfl (al_P hq1) (kd_P q) (pt_P0 g1 q) ?_
    refine k_alenQ (ci := 2) d_P_resize_7 (by decide) (al_A hq1) (kd_A q) (ln_A g1 q) ?_
    refine k_icmp_ge (tgt := 28) d_P_resize_8 (by decide) (fun c_8 => ?_) (fun c_8 => ?_)
    · exact absurd ((nI_leI (by omega) (by omega)).mp c_8) (by omega)
    · skip
      refine k_aload_n d_P_resize_11 rfl rfl ?_
      refine k_getR d_P_resize_12 fP_12 rfl (al_P hq1) (kd_P q) (pt_P0 g1 q) ?_
      refine k_iload_n d_P_resize_15 rfl rfl ?_
      refine k_aaload (ci := 2) d_P_resize_16 (by decide) (al_A hq1) (kd_A q) (show vp_in _ (lnI g1 (idA q)) by rw [ln_A g1 q]; exact vp_in_nI hi3 (by decide)) (by rw [nI_clamp (by omega)]; exact pt_A g1 q hi3) ?_
      refine k_iload_n d_P_resize_17 rfl rfl ?_
      refine k_iload_n d_P_resize_18 rfl rfl ?_
      refine k_call (As := [_, _]) d_P_resize_19 lP_22 mv_L_resize rfl rfl (al_L hq1 hi3) (kd_L q hi3) rfl rfl (Nat.le_of_ble_eq_true rfl) (by decide) (l_resize hq1 hi3 hA hs1 hl1) (fun v_19 g_19 κ_19 q_19 => ?_) (fun E_19 g_19 κ_19 q_19 => ?_)
      · skip
        obtain ⟨e9, hz⟩ := q_19
        obtain rfl := Sum.inl.inj e9
        have hr2 := rzQ_s hi3 hr hz
        first | refine k_iinc1 d_P_resize_22 rfl ?_ | refine k_iinc d_P_resize_22 rfl ?_
        refine k_goto (tgt := 2) d_P_resize_25 (by decide) ?_
        have e1 : gA g1 (idP q) = gA g_19 (idP q) := (hz.2.1 _ (by unfold idP idD; omega)).1.symm
        rw [e1]
        exact ih (i + 1) g_19 κ_19 (by omega) hr2
      · skip
        exact nomatch q_19.1
theorem p_resize {s0 : State} {l : Launch} {c : Cx} {g : Gh} {κ : Sg} {q A B : Nat} (hq : q < 3 + gC g) (hA : okAB A B) (hCI : CI g κ) : KC s0 l M_P_resize c [.ref (gA g (idP q)), .int (nI A), .int (nI B)] g κ (fun o g' κ' => o = .inl none ∧ rzQ A B q 3 g κ g' κ') := by
  refine k_in (by decide) rfl rfl (Nat.le_of_ble_eq_true rfl) (fun hB => ?_)
  refine k_iconst (v := nI 0) d_P_resize_0 (by decide) ?_
  refine k_istore_n d_P_resize_1 rfl (Nat.le_of_ble_eq_true rfl) ?_
  exact p_resize_l hq hA hCI 3 0 g κ (by decide) rzQ_0

def cpQ (κ : Sg) (q q2 A B : Nat) : Nat → Sg
  | 0 => κ
  | n + 1 => sa (cpQ κ q q2 A B n) (idD q n) (fun j => if j < wdN A n * wdN B n then κ (idD q2 n) j else κ (idD q n) j)
theorem cpQ_k {κ : Sg} {q q2 A B i : Nat} : ∀ n, (∀ p, p < n → i ≠ idD q p) → ∀ j, cpQ κ q q2 A B n i j = κ i j
  | 0, _, _ => rfl
  | n + 1, h, j => by
    show sa (cpQ κ q q2 A B n) (idD q n) _ i j = _
    rw [sa_k (h n (by omega))]
    exact cpQ_k n (fun p hp => h p (by omega)) j
theorem cpQ_D {κ : Sg} {q q2 A B p : Nat} : ∀ n, p < n → n ≤ 3 → ∀ j, cpQ κ q q2 A B n (idD q p) j = if j < wdN A p * wdN B p then κ (idD q2 p) j else κ (idD q p) j
  | 0, h, _, _ => by omega
  | n + 1, h, h3, j => by
    show sa (cpQ κ q q2 A B n) (idD q n) _ (idD q p) j = _
    by_cases e : p = n
    · subst e
      rw [sa_at]
    · rw [sa_k (by unfold idD; omega)]
      exact cpQ_D n (by omega) (by omega) j
def cCp (κ : Sg) (q q2 A B : Nat) : Sg := sa (cpQ κ q q2 A B 3) (idF q) (fun j => if j < 4 then κ (idF q2) j else κ (idF q) j)
def okQ (g : Gh) (κ : Sg) (q A B : Nat) : Prop := ∀ p, p < 3 → okP g κ q p A B
theorem p_copy_l {s0 : State} {l : Launch} {c : Cx} {hB : Mem} {g : Gh} {κ : Sg} {q q2 A B : Nat} (hq : q < 3 + gC g) (hq2 : q2 < 3 + gC g) (hqq : q ≠ q2) (hA : okAB A B) (h1 : okQ g κ q A B) (h2 : ∀ p, p < 3 → wdN A p * wdN B p ≤ gL g (idD q2 p)) : ∀ (n i : Nat), i + n = 3 → KQ s0 l M_P_copyFrom c hB 2 [some (.ref (gA g (idP q))), some (.ref (gA g (idP q2))), some (.int (nI i))] [] g (cpQ κ q q2 A B i) (fun o g' κ' => o = .inl none ∧ g' = g ∧ κ' = cCp κ q q2 A B) := by
  intro n
  induction n with
  | zero =>
    intro i hi
    refine k_iload_n d_P_copyFrom_2 rfl rfl ?_
    refine k_aload_n d_P_copyFrom_3 rfl rfl ?_
    refine k_getR d_P_copyFrom_4 fP_12 rfl (al_P hq) (kd_P q) (pt_P0 g q) ?_
    refine k_alenQ (ci := 2) d_P_copyFrom_7 (by decide) (al_A hq) (kd_A q) (ln_A g q) ?_
    refine k_icmp_ge (tgt := 32) d_P_copyFrom_8 (by decide) (fun c_8 => ?_) (fun c_8 => ?_)
    · skip
      refine k_aload_n d_P_copyFrom_32 rfl rfl ?_
      refine k_getR d_P_copyFrom_33 fP_18 rfl (al_P hq2) (kd_P q2) (pt_P1 g q2) ?_
      refine k_iconst (v := nI 0) d_P_copyFrom_36 (by decide) ?_
      refine k_aload_n d_P_copyFrom_37 rfl rfl ?_
      refine k_getR d_P_copyFrom_38 fP_18 rfl (al_P hq) (kd_P q) (pt_P1 g q) ?_
      refine k_iconst (v := nI 0) d_P_copyFrom_41 (by decide) ?_
      refine k_aload_n d_P_copyFrom_42 rfl rfl ?_
      refine k_getR d_P_copyFrom_43 fP_18 rfl (al_P hq) (kd_P q) (pt_P1 g q) ?_
      refine k_alen d_P_copyFrom_46 (al_F hq) (kd_F q) (ln_F g q) ?_
      refine k_copy d_P_copyFrom_47 lP_30 w_cp1 w_cp2 w_cp3 (al_F hq2) (al_F hq) (kd_F q2) (kd_F q) (by decide) (by decide) (by decide) (show 0 + 4 ≤ lnI g (idF q2) by rw [ln_F]; decide) (show 0 + 4 ≤ lnI g (idF q) by rw [ln_F]; decide) (Nat.le_of_ble_eq_true rfl) (by decide) ?_
      refine k_vret d_P_copyFrom_50 rfl ?_
      refine ⟨rfl, rfl, ?_⟩
      have e3 : i = 3 := by omega
      subst e3
      unfold cCp
      refine sa_ext (fun j => ?_)
      have f1 : ∀ q', idF q' ≠ idD q 0 ∧ idF q' ≠ idD q 1 ∧ idF q' ≠ idD q 2 := fun q' => by unfold idF idD; omega
      have f2 : ∀ q', ∀ p, p < 3 → idF q' ≠ idD q p := fun q' p hp => by unfold idF idD; omega
      rw [cpQ_k 3 (f2 q2), cpQ_k 3 (f2 q)]
      show (if 0 ≤ j ∧ j < 0 + 4 then κ (idF q2) (0 + (j - 0)) else κ (idF q) j) = _
      by_cases h : j < 4
      · rw [if_pos h, if_pos (by omega), Nat.sub_zero, Nat.zero_add]
      · rw [if_neg h, if_neg (by omega)]
    · exact absurd (nI_le (show 3 ≤ i by omega) (by omega)) c_8
  | succ n ih =>
    intro i hi
    have hi3 : i < 3 := by omega
    have hP : okP g (cpQ κ q q2 A B i) q i A B := by
      have e : ∀ j, cpQ κ q q2 A B i (idL q i) j = κ (idL q i) j := fun j => cpQ_k i (fun p hp => id_LD q i q p hi3 (by omega)) j
      have h9 := h1 i hi3
      exact ⟨(e 0).trans h9.1, (e 1).trans h9.2.1, (e 2).trans h9.2.2.1, h9.2.2.2⟩
    refine k_iload_n d_P_copyFrom_2 rfl rfl ?_
    refine k_aload_n d_P_copyFrom_3 rfl rfl ?_
    refine k_getR d_P_copyFrom_4 fP_12 rfl (al_P hq) (kd_P q) (pt_P0 g q) ?_
    refine k_alenQ (ci := 2) d_P_copyFrom_7 (by decide) (al_A hq) (kd_A q) (ln_A g q) ?_
    refine k_icmp_ge (tgt := 32) d_P_copyFrom_8 (by decide) (fun c_8 => ?_) (fun c_8 => ?_)
    · exact absurd ((nI_leI (by omega) (by omega)).mp c_8) (by omega)
    · skip
      refine k_aload_n d_P_copyFrom_11 rfl rfl ?_
      refine k_getR d_P_copyFrom_12 fP_12 rfl (al_P hq) (kd_P q) (pt_P0 g q) ?_
      refine k_iload_n d_P_copyFrom_15 rfl rfl ?_
      refine k_aaload (ci := 2) d_P_copyFrom_16 (by decide) (al_A hq) (kd_A q) (show vp_in _ (lnI g (idA q)) by rw [ln_A g q]; exact vp_in_nI hi3 (by decide)) (by rw [nI_clamp (by omega)]; exact pt_A g q hi3) ?_
      refine k_aload_n d_P_copyFrom_17 rfl rfl ?_
      refine k_getR d_P_copyFrom_18 fP_12 rfl (al_P hq2) (kd_P q2) (pt_P0 g q2) ?_
      refine k_iload_n d_P_copyFrom_21 rfl rfl ?_
      refine k_aaload (ci := 2) d_P_copyFrom_22 (by decide) (al_A hq2) (kd_A q2) (show vp_in _ (lnI g (idA q2)) by rw [ln_A g q2]; exact vp_in_nI hi3 (by decide)) (by rw [nI_clamp (by omega)]; exact pt_A g q2 hi3) ?_
      refine k_callv (As := [_]) d_P_copyFrom_23 lP_26 mv_L_copyFrom rfl rfl (al_L hq hi3) (kd_L q hi3) rfl rfl (Nat.le_of_ble_eq_true rfl) (by decide) (l_copyFrom hq hq2 hi3 hA hP (h2 i hi3)) ?_
      first | refine k_iinc1 d_P_copyFrom_26 rfl ?_ | refine k_iinc d_P_copyFrom_26 rfl ?_
      refine k_goto (tgt := 2) d_P_copyFrom_29 (by decide) ?_
      have e1 : sa (cpQ κ q q2 A B i) (idD q i) (fun j => if j < wdN A i * wdN B i then cpQ κ q q2 A B i (idD q2 i) j else cpQ κ q q2 A B i (idD q i) j) = cpQ κ q q2 A B (i + 1) := sa_ext (fun j => by
        rw [cpQ_k i (fun p hp => id_DD hi3 (by omega) (Ne.symm hqq)), cpQ_k i (fun p hp => by unfold idD; omega)])
      rw [e1]
      exact ih (i + 1) (by omega)
theorem p_copyFrom {s0 : State} {l : Launch} {c : Cx} {g : Gh} {κ : Sg} {q q2 A B : Nat} (hq : q < 3 + gC g) (hq2 : q2 < 3 + gC g) (hqq : q ≠ q2) (hA : okAB A B) (h1 : okQ g κ q A B) (h2 : ∀ p, p < 3 → wdN A p * wdN B p ≤ gL g (idD q2 p)) : KC s0 l M_P_copyFrom c [.ref (gA g (idP q)), .ref (gA g (idP q2))] g κ (fun o g' κ' => o = .inl none ∧ g' = g ∧ κ' = cCp κ q q2 A B) := by
  refine k_in (by decide) rfl rfl (Nat.le_of_ble_eq_true rfl) (fun hB => ?_)
  refine k_iconst (v := nI 0) d_P_copyFrom_0 (by decide) ?_
  refine k_istore_n d_P_copyFrom_1 rfl (Nat.le_of_ble_eq_true rfl) ?_
  exact p_copy_l hq hq2 hqq hA h1 h2 3 0 (by decide)

theorem r_clear {s0 : State} {l : Launch} {c : Cx} {g : Gh} {κ : Sg}  : KC s0 l M_R_clear c [.ref (gA g 3)] g κ (fun o g' κ' => o = .inl none ∧ g' = g ∧ κ' = su (fFl κ 4 (nI 0) 8) 3 7 (nI 0)) := by
  refine k_in (by decide) rfl rfl (Nat.le_of_ble_eq_true rfl) (fun hB => ?_)
  refine k_aload_n d_R_clear_0 rfl rfl ?_
  refine k_getR d_R_clear_1 fR_9 rfl (al_0 (by decide)) rfl rfl ?_
  refine k_iconst (v := nI 0) d_R_clear_4 (by decide) ?_
  refine k_callSv (As := [_, _]) d_R_clear_5 lR_39 ms_J_fill rfl rfl rfl rfl (Nat.le_of_ble_eq_true rfl) (by decide) (j_fill (i := 4) (n := 8) (al_0 (by decide)) rfl rfl (by decide)) ?_
  refine k_aload_n d_R_clear_8 rfl rfl ?_
  refine k_iconst (v := nI 0) d_R_clear_9 (by decide) ?_
  refine k_put d_R_clear_10 fR_45 rfl (al_0 (by decide)) rfl rfl rfl rfl ?_
  refine k_vret d_R_clear_13 rfl ?_
  exact ⟨rfl, rfl, rfl⟩

theorem r_setSize {s0 : State} {l : Launch} {c : Cx} {g : Gh} {κ : Sg} {a b : Int32} : KC s0 l M_R_setSize c [.ref (gA g 3), .int a, .int b] g κ (fun o g' κ' => o = .inl none ∧ g' = g ∧ κ' = su (su (su (su κ 3 2 a) 3 3 b) 4 0 (nI 16 * a)) 4 1 (nI 16 * b)) := by
  refine k_in (by decide) rfl rfl (Nat.le_of_ble_eq_true rfl) (fun hB => ?_)
  refine k_aload_n d_R_setSize_0 rfl rfl ?_
  refine k_iload_n d_R_setSize_1 rfl rfl ?_
  refine k_put d_R_setSize_2 fR_21 rfl (al_0 (by decide)) rfl rfl rfl rfl ?_
  refine k_aload_n d_R_setSize_5 rfl rfl ?_
  refine k_iload_n d_R_setSize_6 rfl rfl ?_
  refine k_put d_R_setSize_7 fR_25 rfl (al_0 (by decide)) rfl rfl rfl rfl ?_
  refine k_aload_n d_R_setSize_10 rfl rfl ?_
  refine k_getR d_R_setSize_11 fR_9 rfl (al_0 (by decide)) rfl rfl ?_
  refine k_iconst (v := nI 0) d_R_setSize_14 (by decide) ?_
  refine k_bipush (v := nI 16) d_R_setSize_15 (by decide) ?_
  refine k_aload_n d_R_setSize_17 rfl rfl ?_
  refine k_get d_R_setSize_18 fR_21 rfl (al_0 (by decide)) rfl ?_
  refine k_imul d_R_setSize_21 ?_
  refine k_iastore d_R_setSize_22 (al_0 (by decide)) rfl (show vp_in _ 8 from vp_in_nI (show 0 < 8 by decide) (by decide)) ?_
  refine k_aload_n d_R_setSize_23 rfl rfl ?_
  refine k_getR d_R_setSize_24 fR_9 rfl (al_0 (by decide)) rfl rfl ?_
  refine k_iconst (v := nI 1) d_R_setSize_27 (by decide) ?_
  refine k_bipush (v := nI 16) d_R_setSize_28 (by decide) ?_
  refine k_aload_n d_R_setSize_30 rfl rfl ?_
  refine k_get d_R_setSize_31 fR_25 rfl (al_0 (by decide)) rfl ?_
  refine k_imul d_R_setSize_34 ?_
  refine k_iastore d_R_setSize_35 (al_0 (by decide)) rfl (show vp_in _ 8 from vp_in_nI (show 1 < 8 by decide) (by decide)) ?_
  refine k_vret d_R_setSize_36 rfl ?_
  exact ⟨rfl, rfl, rfl⟩

theorem r_begin {s0 : State} {l : Launch} {c : Cx} {g : Gh} {κ : Sg} {A B : Nat} {st n : Int32} (hG : okG g) (hA : okAB A B) (hCI : CI g κ) (ha : κ 3 2 = nI A) (hb : κ 3 3 = nI B) : KC s0 l M_R_begin c [.ref (gA g 3), .int st, .int n] g κ (fun o g' κ' => o = .inl none ∧ ∃ κ1, rzQ A B (gN g) 3 g κ g' κ1 ∧ κ' = su (su (su (su κ1 (idF (gN g)) 0 st) (idF (gN g)) 1 n) (idF (gN g)) 2 (nI 0)) (idF (gN g)) 3 (nI 0)) := by
  refine k_in (by decide) rfl rfl (Nat.le_of_ble_eq_true rfl) (fun hB => ?_)
  have hn1 : gN g < 3 + gC g := by have := hG.1; omega
  refine k_aload_n d_R_begin_0 rfl rfl ?_
  refine k_getR d_R_begin_1 fR_29 rfl (al_0 (by decide)) rfl rfl ?_
  refine k_aload_n d_R_begin_4 rfl rfl ?_
  refine k_getE d_R_begin_5 fR_21 rfl (al_0 (by decide)) rfl ha ?_
  refine k_aload_n d_R_begin_8 rfl rfl ?_
  refine k_getE d_R_begin_9 fR_25 rfl (al_0 (by decide)) rfl hb ?_
  refine k_call (As := [_, _]) d_R_begin_12 lR_48 mv_P_resize rfl rfl (al_P hn1) (kd_P (gN g)) rfl rfl (Nat.le_of_ble_eq_true rfl) (by decide) (p_resize hn1 hA hCI) (fun v_12 g_12 κ_12 q_12 => ?_) (fun E_12 g_12 κ_12 q_12 => ?_)
  · skip
    obtain ⟨e9, hz⟩ := q_12
    obtain rfl := Sum.inl.inj e9
    have hn2 : gN g < 3 + gC g_12 := by rw [hz.1.2.2.2.1]; exact hn1
    have e1 : gA g 3 = gA g_12 3 := (hz.2.1 3 (fun p hp => by unfold idD; omega)).1.symm
    have hpN : ptr g_12 3 4 = some (idP (gN g)) := by rw [← hz.1.1]; rfl
    show KQ s0 l M_R_begin c hB 15 [some (.ref (gA g 3)), some (.int st), some (.int n)] [] g_12 κ_12 _
    rw [e1]
    refine k_aload_n d_R_begin_15 rfl rfl ?_
    refine k_getR d_R_begin_16 fR_29 rfl (al_0 (by decide)) rfl hpN ?_
    refine k_getR d_R_begin_19 fR_52 rfl (al_P hn2) (kd_P (gN g)) (pt_P1 g_12 (gN g)) ?_
    refine k_iconst (v := nI 0) d_R_begin_22 (by decide) ?_
    refine k_iload_n d_R_begin_23 rfl rfl ?_
    refine k_iastore d_R_begin_24 (al_F hn2) (kd_F (gN g)) (show vp_in _ (lnI g_12 (idF (gN g))) by rw [ln_F]; exact vp_in_nI (show 0 < 4 by decide) (by decide)) ?_
    refine k_aload_n d_R_begin_25 rfl rfl ?_
    refine k_getR d_R_begin_26 fR_29 rfl (al_0 (by decide)) rfl hpN ?_
    refine k_getR d_R_begin_29 fR_52 rfl (al_P hn2) (kd_P (gN g)) (pt_P1 g_12 (gN g)) ?_
    refine k_iconst (v := nI 1) d_R_begin_32 (by decide) ?_
    refine k_iload_n d_R_begin_33 rfl rfl ?_
    refine k_iastore d_R_begin_34 (al_F hn2) (kd_F (gN g)) (show vp_in _ (lnI g_12 (idF (gN g))) by rw [ln_F]; exact vp_in_nI (show 1 < 4 by decide) (by decide)) ?_
    refine k_aload_n d_R_begin_35 rfl rfl ?_
    refine k_getR d_R_begin_36 fR_29 rfl (al_0 (by decide)) rfl hpN ?_
    refine k_getR d_R_begin_39 fR_52 rfl (al_P hn2) (kd_P (gN g)) (pt_P1 g_12 (gN g)) ?_
    refine k_iconst (v := nI 2) d_R_begin_42 (by decide) ?_
    refine k_iconst (v := nI 0) d_R_begin_43 (by decide) ?_
    refine k_iastore d_R_begin_44 (al_F hn2) (kd_F (gN g)) (show vp_in _ (lnI g_12 (idF (gN g))) by rw [ln_F]; exact vp_in_nI (show 2 < 4 by decide) (by decide)) ?_
    refine k_aload_n d_R_begin_45 rfl rfl ?_
    refine k_getR d_R_begin_46 fR_29 rfl (al_0 (by decide)) rfl hpN ?_
    refine k_getR d_R_begin_49 fR_52 rfl (al_P hn2) (kd_P (gN g)) (pt_P1 g_12 (gN g)) ?_
    refine k_iconst (v := nI 3) d_R_begin_52 (by decide) ?_
    refine k_iconst (v := nI 0) d_R_begin_53 (by decide) ?_
    refine k_iastore d_R_begin_54 (al_F hn2) (kd_F (gN g)) (show vp_in _ (lnI g_12 (idF (gN g))) by rw [ln_F]; exact vp_in_nI (show 3 < 4 by decide) (by decide)) ?_
    refine k_vret d_R_begin_55 rfl ?_
    exact ⟨rfl, κ_12, hz, rfl⟩
  · skip
    exact nomatch q_12.1

/-- what showing leaves -/
def shQ (A B q k : Nat) (g : Gh) (κ : Sg) (g' : Gh) (κ' : Sg) : Prop :=
  (gN g' = gN g ∧ gT g' = gT g ∧ gO g' = gO g ∧ gX g' = gX g) ∧ okG g' ∧ CI g' κ' ∧ gC g ≤ gC g' ∧ k < gC g' ∧
  (∀ i, al g i → (∀ p, p < 3 → i ≠ idD (3 + k) p) → gA g' i = gA g i ∧ gL g' i = gL g i) ∧
  (∀ i, al g i → (∀ p, p < 3 → i ≠ idD (3 + k) p ∧ i ≠ idL (3 + k) p) → i ≠ idF (3 + k) → ∀ j, κ' i j = κ i j) ∧
  okQ g' κ' (3 + k) A B ∧ (∀ p j, p < 3 → j < wdN A p * wdN B p → κ' (idD (3 + k) p) j = κ (idD q p) j) ∧ ∀ j, j < 4 → κ' (idF (3 + k)) j = κ (idF q) j
theorem r_show_t {s0 : State} {l : Launch} {c : Cx} {hB : Mem} {g : Gh} {κ : Sg} {q k A B : Nat} {x : Int32} (hA : okAB A B) (hG : okG g) (hCI : CI g κ) (ha : κ 3 2 = nI A) (hb : κ 3 3 = nI B) (hq : q < 3) (hk : k < gC g) (hln : ∀ p, p < 3 → wdN A p * wdN B p ≤ gL g (idD q p)) : KQ s0 l M_R_show c hB 50 [some (.ref (gA g 3)), some (.ref (gA g (idP q))), some (.int x), some (.ref (gA g (idP (3 + k))))] [] g κ (fun o g' κ' => o = .inl none ∧ shQ A B q k g κ g' κ') := by
  have hq1 : q < 3 + gC g := by omega
  have hk1 : 3 + k < 3 + gC g := by omega
  refine k_aload_n d_R_show_50 rfl rfl ?_
  refine k_aload_n d_R_show_51 rfl rfl ?_
  refine k_getE d_R_show_52 fR_21 rfl (al_0 (by decide)) rfl ha ?_
  refine k_aload_n d_R_show_55 rfl rfl ?_
  refine k_getE d_R_show_56 fR_25 rfl (al_0 (by decide)) rfl hb ?_
  refine k_call (As := [_, _]) d_R_show_59 lR_48 mv_P_resize rfl rfl (al_P hk1) (kd_P (3 + k)) rfl rfl (Nat.le_of_ble_eq_true rfl) (by decide) (p_resize hk1 hA hCI) (fun v_59 g_59 κ_59 q_59 => ?_) (fun E_59 g_59 κ_59 q_59 => ?_)
  · skip
    obtain ⟨e9, hz⟩ := q_59
    obtain rfl := Sum.inl.inj e9
    have f1 : gA g (idP q) = gA g_59 (idP q) := (hz.2.1 (idP q) (fun p hp => by unfold idP idD; omega)).1.symm
    have f3 : gA g (idP (3 + k)) = gA g_59 (idP (3 + k)) := (hz.2.1 (idP (3 + k)) (fun p hp => by unfold idP idD; omega)).1.symm
    have hC4 := hz.1.2.2.2.1
    show KQ s0 l M_R_show c hB 62 [some (.ref (gA g 3)), some (.ref (gA g (idP q))), some (.int x), some (.ref (gA g (idP (3 + k))))] [] g_59 κ_59 _
    rw [f1, f3]
    have hCI2 := hCI.rz hz
    have hok2 : okQ g_59 κ_59 (3 + k) A B := fun p hp => by
      have z1 := hz.2.2.2.2 p hp
      have z2 := hz.2.2.1 p hp
      exact ⟨z1.1.trans (hCI (3 + k) p hk1 hp).2, z1.2.1, z1.2.2, z2.1, z2.2⟩
    have hln2 : ∀ p, p < 3 → wdN A p * wdN B p ≤ gL g_59 (idD q p) := fun p hp => by
      rw [(hz.2.1 (idD q p) (fun p2 hp2 => by unfold idD; omega)).2]
      exact hln p hp
    refine k_aload_n d_R_show_62 rfl rfl ?_
    refine k_aload_n d_R_show_63 rfl rfl ?_
    refine k_callv (As := [_]) d_R_show_64 lR_65 mv_P_copyFrom rfl rfl (al_P (show 3 + k < 3 + gC g_59 by rw [hC4]; exact hk1)) (kd_P (3 + k)) rfl rfl (Nat.le_of_ble_eq_true rfl) (by decide) (p_copyFrom (A := A) (B := B) (show 3 + k < 3 + gC g_59 by rw [hC4]; exact hk1) (show q < 3 + gC g_59 by rw [hC4]; exact hq1) (by omega) hA hok2 hln2) ?_
    refine k_vret d_R_show_67 rfl ?_
    refine ⟨rfl, ⟨hz.1.1, hz.1.2.1, hz.1.2.2.1, hz.1.2.2.2.2⟩, ?_, ?_, by omega, by omega, fun i hi h1 => ?_, fun i hi h1 h2 j => ?_, fun p hp => ?_, fun p j hp hj => ?_, fun j hj => ?_⟩
    · unfold okG
      rw [hz.1.1, hz.1.2.1, hz.1.2.2.1, hC4]
      exact hG
    · intro q2 p hq2 hp
      have h9 := hCI2 q2 p hq2 hp
      refine ⟨h9.1, ?_⟩
      unfold cCp
      rw [sa_k (by unfold idL idF; omega), cpQ_k 3 (fun p2 hp2 => id_LD q2 p (3 + k) p2 hp hp2)]
      exact h9.2
    · exact hz.2.1 i h1
    · unfold cCp
      rw [sa_k h2, cpQ_k 3 (fun p hp => (h1 p hp).1)]
      exact hz.2.2.2.1 i h1 j
    · have h9 := hok2 p hp
      have e9 : ∀ j, cCp κ_59 (3 + k) q A B (idL (3 + k) p) j = κ_59 (idL (3 + k) p) j := fun j => by
        unfold cCp
        rw [sa_k (by unfold idL idF; omega), cpQ_k 3 (fun p2 hp2 => id_LD (3 + k) p (3 + k) p2 hp hp2)]
      exact ⟨(e9 0).trans h9.1, (e9 1).trans h9.2.1, (e9 2).trans h9.2.2.1, h9.2.2.2⟩
    · unfold cCp
      rw [sa_k (by unfold idD idF; omega), cpQ_D 3 hp (by decide), if_pos hj]
      exact hz.2.2.2.1 (idD q p) (fun p2 hp2 => ⟨by unfold idD; omega, Ne.symm (id_LD (3 + k) p2 q p hp2 hp)⟩) j
    · unfold cCp
      rw [sa_at, if_pos hj]
      exact hz.2.2.2.1 (idF q) (fun p2 hp2 => ⟨by unfold idD idF; omega, by unfold idL idF; omega⟩) j
  · skip
    exact nomatch q_59.1
