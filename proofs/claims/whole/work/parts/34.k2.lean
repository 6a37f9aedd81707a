/-! ===== calls of the class; reading the tape ===== -/
section KC2
variable {s0 : State} {l : Launch} {M M' : MI} {c : Cx} {hB : Mem} {pc : Nat} {L : List (Option Value)} {st0 rest : List Value} {g : Gh} {κ τ : Sg} {P : Out → Gh → Sg → Prop} {As : List Value} {v : Int32}
theorem k_calli {i idx ci n : Nat} (hd : decode (iC M) pc = .ok (.invokevirtual idx, 3)) (hl : Cond.methodLink (iY M).cls idx (iY M') ∈ lw_tbl) (mv : MV M' ci n) (hH : iH M' = []) (hM0 : iH M = []) (hi : al g i) (hk : kdI i = ci + 1) (hn : As.length = n) (hs : st0 = As.reverse ++ .ref (gA g i) :: rest) (hw : (rest.map fun v => v.category).sum ≤ 8) (hr : iF M' + 1 ≤ iF M ∧ 8 + (iL M' + 11) + iW M' ≤ iW M)
    (hc : KC s0 l M' c (.ref (gA g i) :: As) g κ (fun o g' κ' => o = .inl (some (.int v)) ∧ g' = g ∧ κ' = τ)) (kk : KQ s0 l M c hB (pc + 3) L (.int v :: rest) g τ P) : KQ s0 l M c hB pc L st0 g κ P :=
  k_call hd hl mv hH hM0 hi hk hn hs hw hr hc (fun v9 g' κ' q => by obtain ⟨e, rfl, rfl⟩ := q; obtain rfl := Sum.inl.inj e; exact kk) (fun E g' κ' q => nomatch q.1)
theorem k_callw {w : Value} {i idx ci n : Nat} (hd : decode (iC M) pc = .ok (.invokevirtual idx, 3)) (hl : Cond.methodLink (iY M).cls idx (iY M') ∈ lw_tbl) (mv : MV M' ci n) (hH : iH M' = []) (hM0 : iH M = []) (hi : al g i) (hk : kdI i = ci + 1) (hn : As.length = n) (hs : st0 = As.reverse ++ .ref (gA g i) :: rest) (hw : (rest.map fun v => v.category).sum ≤ 8) (hr : iF M' + 1 ≤ iF M ∧ 8 + (iL M' + 11) + iW M' ≤ iW M)
    (hc : KC s0 l M' c (.ref (gA g i) :: As) g κ (fun o g' κ' => o = .inl (some w) ∧ g' = g ∧ κ' = τ)) (kk : KQ s0 l M c hB (pc + 3) L (w :: rest) g τ P) : KQ s0 l M c hB pc L st0 g κ P :=
  k_call hd hl mv hH hM0 hi hk hn hs hw hr hc (fun v9 g' κ' q => by obtain ⟨e, rfl, rfl⟩ := q; obtain rfl := Sum.inl.inj e; exact kk) (fun E g' κ' q => nomatch q.1)
theorem k_callv {i idx ci n : Nat} (hd : decode (iC M) pc = .ok (.invokevirtual idx, 3)) (hl : Cond.methodLink (iY M).cls idx (iY M') ∈ lw_tbl) (mv : MV M' ci n) (hH : iH M' = []) (hM0 : iH M = []) (hi : al g i) (hk : kdI i = ci + 1) (hn : As.length = n) (hs : st0 = As.reverse ++ .ref (gA g i) :: rest) (hw : (rest.map fun v => v.category).sum ≤ 8) (hr : iF M' + 1 ≤ iF M ∧ 8 + (iL M' + 11) + iW M' ≤ iW M)
    (hc : KC s0 l M' c (.ref (gA g i) :: As) g κ (fun o g' κ' => o = .inl none ∧ g' = g ∧ κ' = τ)) (kk : KQ s0 l M c hB (pc + 3) L rest g τ P) : KQ s0 l M c hB pc L st0 g κ P :=
  k_call hd hl mv hH hM0 hi hk hn hs hw hr hc (fun v9 g' κ' q => by obtain ⟨e, rfl, rfl⟩ := q; obtain rfl := Sum.inl.inj e; exact kk) (fun E g' κ' q => nomatch q.1)
theorem k_callSv {idx n : Nat} (hd : decode (iC M) pc = .ok (.invokestatic idx, 3)) (hl : Cond.methodLink (iY M).cls idx (iY M') ∈ lw_tbl) (mv : MS M' n) (hH : iH M' = []) (hM0 : iH M = []) (hn : As.length = n) (hs : st0 = As.reverse ++ rest) (hw : (rest.map fun v => v.category).sum ≤ 8) (hr : iF M' + 1 ≤ iF M ∧ 8 + (iL M' + 11) + iW M' ≤ iW M)
    (hc : KC s0 l M' c As g κ (fun o g' κ' => o = .inl none ∧ g' = g ∧ κ' = τ)) (kk : KQ s0 l M c hB (pc + 3) L rest g τ P) : KQ s0 l M c hB pc L st0 g κ P :=
  k_callS hd hl mv hH hM0 hn hs hw hr hc (fun v9 g' κ' q => by obtain ⟨e, rfl, rfl⟩ := q; obtain rfl := Sum.inl.inj e; exact kk) (fun E g' κ' q => nomatch q.1)
/-- what reading ends with: the tape has gone on, or it fails as the reference does -/
def RdP (g : Gh) (κ σ' : Sg) (v : Option Value) (o : Out) (g' : Gh) (κ' : Sg) : Prop := (σ' 6 0 = -1 ∧ o = .inl v ∧ g' = g ∧ κ' = su κ 1 2 (σ' 4 0)) ∨ (0 ≤ σ' 6 0 ∧ o = .inr ISE ∧ g' = gx g ∧ ∃ x, κ' = su (su κ 1 2 x) 1 3 (σ' 6 0))
theorem k_callT {i idx ci n : Nat} (hd : decode (iC M) pc = .ok (.invokevirtual idx, 3)) (hl : Cond.methodLink (iY M).cls idx (iY M') ∈ lw_tbl) (mv : MV M' ci n) (hH : iH M' = []) (hM0 : iH M = []) (hi : al g i) (hk : kdI i = ci + 1) (hn : As.length = n) (hs : st0 = As.reverse ++ .ref (gA g i) :: rest) (hw : (rest.map fun v => v.category).sum ≤ 8) (hr : iF M' + 1 ≤ iF M ∧ 8 + (iL M' + 11) + iW M' ≤ iW M)
    (hc : KC s0 l M' c (.ref (gA g i) :: As) g κ (RdP g κ τ (some (.int v)))) (kk : τ 6 0 = -1 → KQ s0 l M c hB (pc + 3) L (.int v :: rest) g (su κ 1 2 (τ 4 0)) P) (kx : 0 ≤ τ 6 0 → ∀ x, P (.inr ISE) (gx g) (su (su κ 1 2 x) 1 3 (τ 6 0))) : KQ s0 l M c hB pc L st0 g κ P :=
  k_call hd hl mv hH hM0 hi hk hn hs hw hr hc (fun v9 g' κ' q => by
    rcases q with ⟨q1, q2, rfl, rfl⟩ | ⟨-, q2, -⟩
    · obtain rfl := Sum.inl.inj q2
      exact kk q1
    · cases q2) (fun E g' κ' q => by
    rcases q with ⟨-, q2, -⟩ | ⟨q1, q2, rfl, x, rfl⟩
    · cases q2
    · obtain rfl := Sum.inr.inj q2
      exact kx q1 x)
theorem k_callTv {i idx ci n : Nat} (hd : decode (iC M) pc = .ok (.invokevirtual idx, 3)) (hl : Cond.methodLink (iY M).cls idx (iY M') ∈ lw_tbl) (mv : MV M' ci n) (hH : iH M' = []) (hM0 : iH M = []) (hi : al g i) (hk : kdI i = ci + 1) (hn : As.length = n) (hs : st0 = As.reverse ++ .ref (gA g i) :: rest) (hw : (rest.map fun v => v.category).sum ≤ 8) (hr : iF M' + 1 ≤ iF M ∧ 8 + (iL M' + 11) + iW M' ≤ iW M)
    (hc : KC s0 l M' c (.ref (gA g i) :: As) g κ (RdP g κ τ none)) (kk : τ 6 0 = -1 → KQ s0 l M c hB (pc + 3) L rest g (su κ 1 2 (τ 4 0)) P) (kx : 0 ≤ τ 6 0 → ∀ x, P (.inr ISE) (gx g) (su (su κ 1 2 x) 1 3 (τ 6 0))) : KQ s0 l M c hB pc L st0 g κ P :=
  k_call hd hl mv hH hM0 hi hk hn hs hw hr hc (fun v9 g' κ' q => by
    rcases q with ⟨q1, q2, rfl, rfl⟩ | ⟨-, q2, -⟩
    · obtain rfl := Sum.inl.inj q2
      exact kk q1
    · cases q2) (fun E g' κ' q => by
    rcases q with ⟨-, q2, -⟩ | ⟨q1, q2, rfl, x, rfl⟩
    · cases q2
    · obtain rfl := Sum.inr.inj q2
      exact kx q1 x)
end KC2
theorem su_self (σ : Sg) (k j : Nat) : su σ k j (σ k j) = σ := by
  funext a b
  unfold su
  split
  · rename_i e; rw [e.1, e.2]
  · rfl
theorem RdP.up {g : Gh} {κ τ : Sg} {a : Int32} {v : Option Value} {o : Out} {g' : Gh} {κ' : Sg} (h : RdP g (su κ 1 2 a) τ v o g' κ') : RdP g κ τ v o g' κ' := by
  rcases h with ⟨h1, h2, h3, h4⟩ | ⟨h1, h2, h3, x, h4⟩
  · exact Or.inl ⟨h1, h2, h3, by rw [h4, su_su]⟩
  · exact Or.inr ⟨h1, h2, h3, x, by rw [h4, su_su]⟩
theorem RdP.thr {g : Gh} {κ τ τ' : Sg} {x y : Int32} {v : Option Value} (w : 0 ≤ τ 6 0) (e : τ' = τ) (e2 : y = τ 6 0) : RdP g κ τ' v (.inr ISE) (gx g) (su (su κ 1 2 x) 1 3 y) := Or.inr ⟨by rw [e]; exact w, rfl, rfl, x, by rw [e, e2]⟩
def bitv (κ : Sg) (j : Nat) : Int32 := κ 2 (j / 8) >>> (nI (7 - j % 8) &&& 31) &&& nI 1
/-- the tape as the reference has it, while nothing is wrong -/
def TRel (κ σ : Sg) : Prop := okR σ ∧ κ 1 2 = σ 4 0 ∧ κ 1 1 = σ 5 0 ∧ σ 6 0 = -1 ∧ (∀ e j, σ 5 0 = nI e → e ≤ 32000 → j < e → σ 3 j = bitv κ j) ∧ κ 1 3 = -1
theorem TRel.w {κ σ : Sg} (h : TRel κ σ) : ¬ 0 ≤ σ 6 0 := by rw [h.2.2.2.1]; decide
theorem TRel.next {κ σ σ' : Sg} (h : TRel κ σ) (e : tk σ σ') (r : okR σ') (w : σ' 6 0 = -1) : TRel (su κ 1 2 (σ' 4 0)) σ' := by
  obtain ⟨h1, h2, h3, h4, h5, h6⟩ := h
  refine ⟨r, su_at _ _ _ _, ?_, w, fun e9 j he he2 hj => ?_, by unfold su; rw [if_neg (by decide)]; exact h6⟩
  · rw [e 5 (by decide) (by decide)]
    exact h3
  · rw [e 5 (by decide) (by decide)] at he
    rw [e 3 (by decide) (by decide)]
    exact h5 e9 j he he2 hj
theorem fW_1 {σ : Sg} {p : Int32} (w : σ 6 0 = -1) : fW σ p = su σ 6 0 p := by
  unfold fW
  rw [if_neg (by rw [w]; decide)]
theorem bit_w {σ : Sg} (w : 0 ≤ σ 6 0) : fBit σ = (0, σ) := by unfold fBit; rw [if_pos w]
theorem num_w {σ : Sg} (w : 0 ≤ σ 6 0) : ∀ (n : Nat) (v : Int32), (fNum n v σ).2 = σ
  | 0, v => rfl
  | n + 1, v => by
    unfold fNum
    rw [bit_w w]
    exact num_w w n _
theorem num_a : ∀ (n : Nat) (v : Int32) {σ : Sg}, okR σ → ¬ 0 ≤ σ 6 0 → ¬ 0 ≤ (fNum n v σ).2 6 0 → at4 (fNum n v σ).2 = at4 σ + n
  | 0, v, σ, _, _, _ => (Int.add_zero _).symm
  | n + 1, v, σ, h, h1, h2 => by
    unfold fNum at h2 ⊢
    by_cases h3 : 0 ≤ (fBit σ).2 6 0
    · rw [num_w h3] at h2
      exact absurd h3 h2
    · rw [num_a n _ h.bit h3 h2, bit_a h.1 h1 h3]
      omega
theorem at_pos {σ : Sg} (h : okR σ) (h1 : 1 ≤ at4 σ) : 0 ≤ σ 4 0 - nI 1 := by
  obtain ⟨p, e, a1, a2, a3, a4⟩ := h.1
  unfold at4 at h1
  rw [a1, nI_toInt (by omega)] at h1
  rw [a1, pk_sub (by omega)]
  exact nI_pos' (by omega)
theorem at_nn {σ : Sg} (h : okR σ) : 0 ≤ at4 σ := by
  obtain ⟨p, e, a1, a2, a3, a4⟩ := h.1
  unfold at4
  rw [a1, nI_toInt (by omega)]
  omega
theorem at_0 {σ : Sg} (h : okR σ) : 0 ≤ σ 4 0 := by
  obtain ⟨p, e, a1, a2, a3, a4⟩ := h.1
  rw [a1]
  exact nI_pos' (by omega)
theorem bit_n {κ σ : Sg} (h : TRel κ σ) : (∃ p e, σ 4 0 = nI p ∧ σ 5 0 = nI e ∧ p < e ∧ e ≤ 32000 ∧ fBit σ = (bitv κ p, su σ 4 0 (nI (p + 1)))) ∨ (∃ e, σ 4 0 = nI e ∧ σ 5 0 = nI e ∧ e ≤ 32000 ∧ fBit σ = (0, su σ 6 0 (nI e))) := by
  obtain ⟨p, e, a1, a2, a3, a4⟩ := h.1.1
  by_cases hpe : p = e
  · subst hpe
    refine Or.inr ⟨p, a1, a2, a4, ?_⟩
    unfold fBit
    rw [if_neg h.w, if_pos (by rw [a1, a2]), fW_1 h.2.2.2.1, a2]
  · refine Or.inl ⟨p, e, a1, a2, by omega, a4, ?_⟩
    unfold fBit
    rw [if_neg h.w, if_neg (by rw [a1, a2]; exact fun z => hpe ((nI_eq (by omega) (by omega)).mp z)), a1, nI_1, nI_clamp (by omega), h.2.2.2.2.1 e p a2 a4 (by omega)]
theorem shr3 {p : Nat} (h : p < 2 ^ 31) : nI p >>> (nI 3 &&& 31) = nI (p / 8) := pk_shrN h _ 3 (by decide)
theorem and7 {p : Nat} (h : p < 2 ^ 32) : nI p &&& nI 7 = nI (p % 8) := pk_andN h 3 (by decide)

theorem t_failAt {s0 : State} {l : Launch} {c : Cx} {g : Gh} {κ : Sg} {p : Int32} : KC s0 l M_T_failAt c [.ref (gA g 1), .int p] g κ (fun o g' κ' => o = .inr ISE ∧ g' = gx g ∧ κ' = su κ 1 3 p) := by
  refine k_in (by decide) rfl rfl (Nat.le_of_ble_eq_true rfl) (fun hB => ?_)
  refine k_aload_n d_T_failAt_0 rfl rfl ?_
  refine k_iload_n d_T_failAt_1 rfl rfl ?_
  refine k_put d_T_failAt_2 fT_15 rfl (al_0 (by decide)) rfl rfl rfl rfl ?_
  refine k_throw d_T_failAt_5 d_T_failAt_8 d_T_failAt_9 d_T_failAt_12 (by decide) cT_37 w_iniISE w_atISE rfl (Nat.le_of_ble_eq_true rfl) (by decide) ?_
  exact ⟨rfl, rfl, rfl⟩

theorem t_next {s0 : State} {l : Launch} {c : Cx} {g : Gh} {κ : Sg} {σ : Sg} (hT : TRel κ σ) : KC s0 l M_T_next c [.ref (gA g 1)] g κ (RdP g κ (fBit σ).2 (some (.int (fBit σ).1))) := by
  refine k_in (by decide) rfl rfl (Nat.le_of_ble_eq_true rfl) (fun hB => ?_)
  have h12 := hT.2.1
  have h11 := hT.2.2.1
  have hw := hT.2.2.2.1
  refine k_aload_n d_T_next_0 rfl rfl ?_
  refine k_get d_T_next_1 fT_34 rfl (al_0 (by decide)) rfl ?_
  refine k_aload_n d_T_next_4 rfl rfl ?_
  refine k_get d_T_next_5 fT_19 rfl (al_0 (by decide)) rfl ?_
  refine k_icmp_lt (tgt := 27) d_T_next_8 (by decide) (fun c_8 => ?_) (fun c_8 => ?_)
  · skip
    rcases bit_n hT with ⟨p, e, a1, a2, a3, a4, a5⟩ | ⟨e, a1, a2, a3, a4⟩
    rotate_left
    · exfalso
      rw [h12, h11, a1, a2] at c_8
      exact absurd c_8 (nI_nlt (Nat.le_refl _) (by omega))
    have hp7 : p % 8 < 8 := Nat.mod_lt _ (by decide)
    refine k_aload_n d_T_next_27 rfl rfl ?_
    refine k_getR d_T_next_28 fT_11 rfl (al_0 (by decide)) rfl rfl ?_
    refine k_aload_n d_T_next_31 rfl rfl ?_
    refine k_get d_T_next_32 fT_34 rfl (al_0 (by decide)) rfl ?_
    refine k_iconst (v := nI 3) d_T_next_35 (by decide) ?_
    refine k_ishr d_T_next_36 ?_
    refine k_top (show κ 1 2 >>> (nI 3 &&& 31) = nI (p / 8) by rw [h12, a1]; exact shr3 (by omega)) ?_
    refine k_baload d_T_next_37 (al_0 (by decide)) rfl (show vp_in _ 4000 from vp_in_nI (by omega) (by decide)) ?_
    refine k_bipush (v := nI 7) d_T_next_38 (by decide) ?_
    refine k_aload_n d_T_next_40 rfl rfl ?_
    refine k_get d_T_next_41 fT_34 rfl (al_0 (by decide)) rfl ?_
    refine k_bipush (v := nI 7) d_T_next_44 (by decide) ?_
    refine k_iand d_T_next_46 ?_
    refine k_top (show κ 1 2 &&& nI 7 = nI (p % 8) by rw [h12, a1]; exact and7 (by omega)) ?_
    refine k_isubN d_T_next_47 (by omega) ?_
    refine k_ishr d_T_next_48 ?_
    refine k_iconst (v := nI 1) d_T_next_49 (by decide) ?_
    refine k_iand d_T_next_50 ?_
    refine k_istore_n d_T_next_51 rfl (Nat.le_of_ble_eq_true rfl) ?_
    refine k_aload_n d_T_next_52 rfl rfl ?_
    refine k_dup d_T_next_53 rfl ?_
    refine k_get d_T_next_54 fT_34 rfl (al_0 (by decide)) rfl ?_
    refine k_iconst (v := nI 1) d_T_next_57 (by decide) ?_
    refine k_iadd d_T_next_58 ?_
    refine k_put d_T_next_59 fT_34 rfl (al_0 (by decide)) rfl rfl rfl rfl ?_
    refine k_iload_n d_T_next_62 rfl rfl ?_
    refine k_iret d_T_next_63 rfl rfl ?_
    refine Or.inl ⟨?_, ?_, rfl, ?_⟩
    · rw [a5]
      exact hw
    · rw [a5, nI_clamp (by omega)]
      rfl
    · rw [a5]
      show su κ 1 2 (κ 1 2 + nI 1) = su κ 1 2 (nI (p + 1))
      rw [h12, a1, nI_add]
  · skip
    rcases bit_n hT with ⟨p, e, a1, a2, a3, a4, a5⟩ | ⟨e, a1, a2, a3, a4⟩
    · exfalso
      rw [h12, h11, a1, a2] at c_8
      exact c_8 (nI_lt a3 (by omega))
    refine k_aload_n d_T_next_11 rfl rfl ?_
    refine k_aload_n d_T_next_12 rfl rfl ?_
    refine k_get d_T_next_13 fT_19 rfl (al_0 (by decide)) rfl ?_
    refine k_put d_T_next_16 fT_15 rfl (al_0 (by decide)) rfl rfl rfl rfl ?_
    refine k_throw d_T_next_19 d_T_next_22 d_T_next_23 d_T_next_26 (by decide) cT_37 w_iniISE w_atISE rfl (Nat.le_of_ble_eq_true rfl) (by decide) ?_
    refine Or.inr ⟨?_, rfl, rfl, κ 1 2, ?_⟩
    · rw [a4]
      exact nI_pos' (by omega)
    · rw [a4, su_self]
      show su κ 1 3 (κ 1 1) = su κ 1 3 (nI e)
      rw [h11, a2]

theorem t_number_l {s0 : State} {l : Launch} {c : Cx} {hB : Mem} {g : Gh} {N : Nat} (hN : N < 2 ^ 31) : ∀ (n i : Nat) (v : Int32) (κ σ : Sg), TRel κ σ → i + n = N → KQ s0 l M_T_number c hB 4 [some (.ref (gA g 1)), some (.int (nI N)), some (.int v), some (.int (nI i))] [] g κ (RdP g κ (fNum n v σ).2 (some (.int (fNum n v σ).1))) := by
  intro n
  induction n with
  | zero =>
    intro i v κ σ hT hi
    refine k_iload_n d_T_number_4 rfl rfl ?_
    refine k_iload_n d_T_number_5 rfl rfl ?_
    refine k_icmp_ge (tgt := 24) d_T_number_6 (by decide) (fun c_6 => ?_) (fun c_6 => ?_)
    · skip
      refine k_iload_n d_T_number_24 rfl rfl ?_
      refine k_iret d_T_number_25 rfl rfl ?_
      exact Or.inl ⟨hT.2.2.2.1, rfl, rfl, (by show κ = su κ 1 2 (σ 4 0); rw [← hT.2.1]; exact (su_self _ _ _).symm)⟩
    · exact absurd (nI_le (show N ≤ i by omega) (by omega)) c_6
  | succ n ih =>
    intro i v κ σ hT hi
    unfold fNum
    refine k_iload_n d_T_number_4 rfl rfl ?_
    refine k_iload_n d_T_number_5 rfl rfl ?_
    refine k_icmp_ge (tgt := 24) d_T_number_6 (by decide) (fun c_6 => ?_) (fun c_6 => ?_)
    · exact absurd c_6 (nI_ge (by omega) hN)
    · skip
      refine k_iconst (v := nI 2) d_T_number_9 (by decide) ?_
      refine k_iload_n d_T_number_10 rfl rfl ?_
      refine k_imul d_T_number_11 ?_
      refine k_aload_n d_T_number_12 rfl rfl ?_
      refine k_callT (As := []) d_T_number_13 lT_40 mv_T_next rfl rfl (al_0 (by decide)) rfl rfl rfl (Nat.le_of_ble_eq_true rfl) (by decide) (t_next hT) (fun w_13 => ?_) (fun w_13 x_13 => ?_)
      · skip
        refine k_iadd d_T_number_16 ?_
        refine k_istore_n d_T_number_17 rfl (Nat.le_of_ble_eq_true rfl) ?_
        first | refine k_iinc1 d_T_number_18 rfl ?_ | refine k_iinc d_T_number_18 rfl ?_
        refine k_goto (tgt := 4) d_T_number_21 (by decide) ?_
        exact (ih (i + 1) _ _ _ (hT.next (tk_bit σ) hT.1.bit w_13) (by omega)).mono (fun _ _ _ q => q.up)
      · skip
        exact RdP.thr w_13 (num_w w_13 _ _) rfl
theorem t_number {s0 : State} {l : Launch} {c : Cx} {g : Gh} {κ : Sg} {σ : Sg} {n : Nat} (hT : TRel κ σ) (hn : n < 2 ^ 31) : KC s0 l M_T_number c [.ref (gA g 1), .int (nI n)] g κ (RdP g κ (fNum n 0 σ).2 (some (.int (fNum n 0 σ).1))) := by
  refine k_in (by decide) rfl rfl (Nat.le_of_ble_eq_true rfl) (fun hB => ?_)
  refine k_iconst (v := nI 0) d_T_number_0 (by decide) ?_
  refine k_istore_n d_T_number_1 rfl (Nat.le_of_ble_eq_true rfl) ?_
  refine k_iconst (v := nI 0) d_T_number_2 (by decide) ?_
  refine k_istore_n d_T_number_3 rfl (Nat.le_of_ble_eq_true rfl) ?_
  exact t_number_l hn n 0 0 κ σ hT (by omega)

theorem t_nonZero {s0 : State} {l : Launch} {c : Cx} {g : Gh} {κ : Sg} {σ : Sg} {n : Nat} (hT : TRel κ σ) (hn : n < 2 ^ 31) (hn1 : 1 ≤ n) : KC s0 l M_T_nonZero c [.ref (gA g 1), .int (nI n)] g κ (RdP g κ (fNA n σ).2 (some (.int (fNA n σ).1))) := by
  refine k_in (by decide) rfl rfl (Nat.le_of_ble_eq_true rfl) (fun hB => ?_)
  refine k_aload_n d_T_nonZero_0 rfl rfl ?_
  refine k_iload_n d_T_nonZero_1 rfl rfl ?_
  refine k_callT (As := [_]) d_T_nonZero_2 lT_43 mv_T_number rfl rfl (al_0 (by decide)) rfl rfl rfl (Nat.le_of_ble_eq_true rfl) (by decide) (t_number hT hn) (fun w_2 => ?_) (fun w_2 x_2 => ?_)
  · skip
    have hw2 : ¬ 0 ≤ (fNum n 0 σ).2 6 0 := by rw [w_2]; decide
    refine k_istore_n d_T_nonZero_5 rfl (Nat.le_of_ble_eq_true rfl) ?_
    refine k_iload_n d_T_nonZero_6 rfl rfl ?_
    refine k_if_ne (tgt := 20) d_T_nonZero_7 (by decide) (fun c_7 => ?_) (fun c_7 => ?_)
    · skip
      refine k_iload_n d_T_nonZero_20 rfl rfl ?_
      refine k_iret d_T_nonZero_21 rfl rfl ?_
      have e1 : (fNA n σ).2 = (fNum n 0 σ).2 := by
        unfold fNA
        rw [if_neg hw2, if_neg c_7]
      exact Or.inl ⟨by rw [e1]; exact w_2, rfl, rfl, by rw [e1]⟩
    · skip
      refine k_aload_n d_T_nonZero_10 rfl rfl ?_
      refine k_aload_n d_T_nonZero_11 rfl rfl ?_
      refine k_get d_T_nonZero_12 fT_34 rfl (al_0 (by decide)) rfl ?_
      refine k_iconst (v := nI 1) d_T_nonZero_15 (by decide) ?_
      refine k_isub d_T_nonZero_16 ?_
      refine k_call (As := [_]) d_T_nonZero_17 lT_47 mv_T_failAt rfl rfl (al_0 (by decide)) rfl rfl rfl (Nat.le_of_ble_eq_true rfl) (by decide) (t_failAt) (fun v_17 g_17 κ_17 q_17 => absurd q_17.1 (fun h9 => nomatch h9)) (fun E_17 g_17 κ_17 q_17 => ?_)
      obtain ⟨rE_17, rfl, rfl⟩ := q_17
      obtain rfl := Sum.inr.inj rE_17
      have e1 : (fNA n σ).2 = su (fNum n 0 σ).2 6 0 ((fNum n 0 σ).2 4 0 - nI 1) := by
        unfold fNA
        rw [if_neg hw2, if_pos c_7, fW_1 w_2]
      have hp := at_pos (okR.num n 0 hT.1) (by rw [num_a n 0 hT.1 hT.w hw2]; have := at_nn hT.1; omega)
      refine Or.inr ⟨?_, rfl, rfl, (fNum n 0 σ).2 4 0, ?_⟩
      · rw [e1, su_at]
        exact hp
      · rw [e1, su_at]
        rfl
  · skip
    refine RdP.thr w_2 ?_ rfl
    unfold fNA
    rw [if_pos w_2]

def fEx (val : Int32) : Nat → Sg → Sg
  | 0, σ => σ
  | n + 1, σ => if 0 ≤ (fBit σ).2 6 0 then (fBit σ).2 else if (fBit σ).1 = val >>> (nI n &&& 31) &&& nI 1 then fEx val n (fBit σ).2 else fW (fBit σ).2 ((fBit σ).2 4 0 - nI 1)
theorem tk_ex {val : Int32} : ∀ (n : Nat) (σ : Sg), tk σ (fEx val n σ)
  | 0, σ => tk.refl σ
  | n + 1, σ => by
    unfold fEx
    split
    · exact tk_bit σ
    · split
      · exact (tk_bit σ).trans (tk_ex n _)
      · exact (tk_bit σ).trans (tk_fW _ _)
theorem okR.ex {val : Int32} : ∀ (n : Nat) {σ : Sg}, okR σ → okR (fEx val n σ)
  | 0, _, h => h
  | n + 1, σ, h => by
    unfold fEx
    split
    · exact h.bit
    · split
      · exact okR.ex n h.bit
      · exact h.bit.fW
theorem t_expect_l {s0 : State} {l : Launch} {c : Cx} {hB : Mem} {g : Gh} {val w : Int32} : ∀ (n : Nat) (κ σ : Sg), n < 2 ^ 31 → TRel κ σ → KQ s0 l M_T_expect c hB 4 [some (.ref (gA g 1)), some (.int val), some (.int w), some (.int (nI n - nI 1))] [] g κ (RdP g κ (fEx val n σ) none) := by
  intro n
  induction n with
  | zero =>
    intro κ σ hn hT
    unfold fEx
    refine k_iload_n d_T_expect_4 rfl rfl ?_
    refine k_if_lt (tgt := 36) d_T_expect_5 (by decide) (fun c_5 => ?_) (fun c_5 => ?_)
    · skip
      refine k_vret d_T_expect_36 rfl ?_
      exact Or.inl ⟨hT.2.2.2.1, rfl, rfl, (by show κ = su κ 1 2 (σ 4 0); rw [← hT.2.1]; exact (su_self _ _ _).symm)⟩
    · exact absurd (show nI 0 - nI 1 < 0 by decide) c_5
  | succ n ih =>
    intro κ σ hn hT
    have e0 : nI (n + 1) - nI 1 = nI n := pk_sub (by omega)
    rw [e0]
    have e1 : nI n + Int32.ofInt (-1) = nI n - nI 1 := by rw [Int32.sub_eq_add_neg]; rfl
    unfold fEx
    refine k_iload_n d_T_expect_4 rfl rfl ?_
    refine k_if_lt (tgt := 36) d_T_expect_5 (by decide) (fun c_5 => ?_) (fun c_5 => ?_)
    · exact absurd c_5 (Int32.not_lt.mpr (nI_pos' (by omega)))
    · skip
      refine k_aload_n d_T_expect_8 rfl rfl ?_
      refine k_callT (As := []) d_T_expect_9 lT_40 mv_T_next rfl rfl (al_0 (by decide)) rfl rfl rfl (Nat.le_of_ble_eq_true rfl) (by decide) (t_next hT) (fun w_9 => ?_) (fun w_9 x_9 => ?_)
      · skip
        have hw9 : ¬ 0 ≤ (fBit σ).2 6 0 := by rw [w_9]; decide
        rw [if_neg hw9]
        refine k_iload_n d_T_expect_12 rfl rfl ?_
        refine k_iload_n d_T_expect_13 rfl rfl ?_
        refine k_ishr d_T_expect_14 ?_
        refine k_iconst (v := nI 1) d_T_expect_15 (by decide) ?_
        refine k_iand d_T_expect_16 ?_
        refine k_icmp_eq (tgt := 30) d_T_expect_17 (by decide) (fun c_17 => ?_) (fun c_17 => ?_)
        · skip
          refine k_iinc d_T_expect_30 rfl ?_
          refine k_goto (tgt := 4) d_T_expect_33 (by decide) ?_
          rw [if_pos c_17]
          exact (e1 ▸ ih _ _ (by omega) (hT.next (tk_bit σ) hT.1.bit w_9)).mono (fun _ _ _ q => q.up)
        · skip
          refine k_aload_n d_T_expect_20 rfl rfl ?_
          refine k_aload_n d_T_expect_21 rfl rfl ?_
          refine k_get d_T_expect_22 fT_34 rfl (al_0 (by decide)) rfl ?_
          refine k_iconst (v := nI 1) d_T_expect_25 (by decide) ?_
          refine k_isub d_T_expect_26 ?_
          refine k_call (As := [_]) d_T_expect_27 lT_47 mv_T_failAt rfl rfl (al_0 (by decide)) rfl rfl rfl (Nat.le_of_ble_eq_true rfl) (by decide) (t_failAt) (fun v_27 g_27 κ_27 q_27 => absurd q_27.1 (fun h9 => nomatch h9)) (fun E_27 g_27 κ_27 q_27 => ?_)
          obtain ⟨rE_27, rfl, rfl⟩ := q_27
          obtain rfl := Sum.inr.inj rE_27
          rw [if_neg c_17, fW_1 w_9]
          have hp := at_pos hT.1.bit (by rw [bit_a hT.1.1 hT.w hw9]; have := at_nn hT.1; omega)
          refine Or.inr ⟨?_, rfl, rfl, (fBit σ).2 4 0, ?_⟩
          · rw [su_at]
            exact hp
          · rw [su_at]
            rfl
      · skip
        exact RdP.thr w_9 (if_pos w_9) rfl
theorem t_expect {s0 : State} {l : Launch} {c : Cx} {g : Gh} {κ : Sg} {σ : Sg} {val : Int32} {n : Nat} (hT : TRel κ σ) (hn : n < 2 ^ 31) : KC s0 l M_T_expect c [.ref (gA g 1), .int val, .int (nI n)] g κ (RdP g κ (fEx val n σ) none) := by
  refine k_in (by decide) rfl rfl (Nat.le_of_ble_eq_true rfl) (fun hB => ?_)
  refine k_iload_n d_T_expect_0 rfl rfl ?_
  refine k_iconst (v := nI 1) d_T_expect_1 (by decide) ?_
  refine k_isub d_T_expect_2 ?_
  refine k_istore_n d_T_expect_3 rfl (Nat.le_of_ble_eq_true rfl) ?_
  exact t_expect_l n κ σ hn hT

theorem neg7 {p : Nat} (h : p < 2 ^ 31) : -(nI p) &&& nI 7 = nI ((8 - p % 8) % 8) := by
  rw [pk_and (-(nI p)) 3 (by decide)]
  have e : (-(nI p)).toBitVec.toNat = (2 ^ 32 - p) % 2 ^ 32 := by
    show (-(nI p).toBitVec).toNat = _
    rw [BitVec.toNat_neg, pk_tn (by omega)]
  rw [e]
  congr 1
  omega
theorem t_align {s0 : State} {l : Launch} {c : Cx} {g : Gh} {κ : Sg} {σ : Sg} {p : Nat} (hT : TRel κ σ) (hp : σ 4 0 = nI p) (hp2 : p ≤ 32000) : KC s0 l M_T_align c [.ref (gA g 1)] g κ (RdP g κ (fEx (nI 0) ((8 - p % 8) % 8) σ) none) := by
  refine k_in (by decide) rfl rfl (Nat.le_of_ble_eq_true rfl) (fun hB => ?_)
  refine k_aload_n d_T_align_0 rfl rfl ?_
  refine k_iconst (v := nI 0) d_T_align_1 (by decide) ?_
  refine k_aload_n d_T_align_2 rfl rfl ?_
  refine k_getE d_T_align_3 fT_34 rfl (al_0 (by decide)) rfl (hT.2.1.trans hp) ?_
  refine k_ineg d_T_align_6 ?_
  refine k_bipush (v := nI 7) d_T_align_7 (by decide) ?_
  refine k_iand d_T_align_9 ?_
  refine k_top (neg7 (by omega)) ?_
  refine k_callTv (As := [_, _]) d_T_align_10 lT_50 mv_T_expect rfl rfl (al_0 (by decide)) rfl rfl rfl (Nat.le_of_ble_eq_true rfl) (by decide) (t_expect hT (by omega)) (fun w_10 => ?_) (fun w_10 x_10 => ?_)
  · skip
    refine k_vret d_T_align_13 rfl ?_
    exact Or.inl ⟨w_10, rfl, rfl, rfl⟩
  · skip
    exact RdP.thr w_10 rfl rfl

