/-! ===== shown, dot, sum ===== -/
theorem k_aloadN {s0 : State} {l : Launch} {M : MI} {c : Cx} {hB : Mem} {pc : Nat} {L : List (Option Value)} {st : List Value} {g : Gh} {κ : Sg} {P : Out → Gh → Sg → Prop} {i : Nat} (hd : decode (iC M) pc = .ok (.aload i, 2)) (hl : L[i]? = some (some .null)) (k : KQ s0 l M c hB (pc + 2) L (.null :: st) g κ P) : KQ s0 l M c hB pc L st g κ P := fun h hM => q_aloadN hd hl (k h hM)
theorem k_astoreN {s0 : State} {l : Launch} {M : MI} {c : Cx} {hB : Mem} {pc : Nat} {L : List (Option Value)} {st : List Value} {g : Gh} {κ : Sg} {P : Out → Gh → Sg → Prop} {i : Nat} (hd : decode (iC M) pc = .ok (.astore i, 2)) (hn : i < L.length) (k : KQ s0 l M c hB (pc + 2) (L.set i (some (.null))) st g κ P) : KQ s0 l M c hB pc L (.null :: st) g κ P := fun h hM => q_astoreN hd hn (k h hM)
theorem nl_no {σ : Sg} {k p : Int32} (h : ¬ fNL σ k p = 0) (hk : fNP σ k = 0) : p < 0 ∨ nI 3 ≤ p := by
  unfold fNL at h
  rw [if_neg (fun z => z hk)] at h
  by_cases h1 : p < 0
  · exact Or.inl h1
  · rw [if_neg h1] at h
    by_cases h2 : p ≤ nI 2
    · rw [if_pos h2] at h
      exact absurd rfl h
    · refine Or.inr ?_
      rw [i_le] at h2 ⊢
      have e3 : (nI 3).toInt = 3 := by decide
      have e2 : (nI 2).toInt = 2 := by decide
      omega
theorem RL.np {g : Gh} {κ σ : Sg} {k : Int32} (h : RL g κ σ) (hk : ¬ fNP σ k = 0) : k < 0 ∨ nI 20 ≤ k ∨ κ 4 2 ≤ k := by
  rw [h.2.2.2.1 2 (by decide)]
  exact np_iff hk

theorem x_shown {s0 : State} {l : Launch} {c : Cx} {g : Gh} {κ σ : Sg} {k w : Int32} (h : RL g κ σ) : KC s0 l M_X_shown c [.ref (gA g 0), .int k, .int w] g κ (fun o g' κ' => κ' = κ ∧ (((fShn σ k w).2 0 0 = nI 0 ∧ o = .inl (some (.int (fShn σ k w).1)) ∧ g' = g) ∨ ((fShn σ k w).2 0 0 = nI 1 ∧ o = .inr NSE ∧ g' = gx g))) := by
  refine k_in (by decide) rfl rfl (Nat.le_of_ble_eq_true rfl) (fun hB => ?_)
  by_cases hk : fNP σ k = 0
  · obtain ⟨K, hK, rfl, hkl⟩ := np_in hk
    obtain ⟨A, B, hA, hD, hKO, hlt⟩ := h.kept hK hkl
    have hK3 : 3 + K < 3 + gC g := by have := hKO.1; omega
    refine k_aload_n d_X_shown_0 rfl rfl ?_
    refine k_getR d_X_shown_1 fX_19 rfl (al_0 (by decide)) rfl rfl ?_
    refine k_iload_n d_X_shown_4 rfl rfl ?_
    refine k_callw (As := [_]) d_X_shown_5 lX_77 mv_R_keptPicture rfl rfl (al_0 (by decide)) rfl rfl rfl (Nat.le_of_ble_eq_true rfl) (by decide) (r_kp_s hK hKO.1 hlt) ?_
    refine k_astore_n d_X_shown_8 rfl (Nat.le_of_ble_eq_true rfl) ?_
    refine k_aload_n d_X_shown_9 rfl rfl ?_
    refine k_ifnull d_X_shown_10 ?_
    refine k_iload_n d_X_shown_13 rfl rfl ?_
    refine k_if_lt (tgt := 26) d_X_shown_14 (by decide) (fun c_14 => ?_) (fun c_14 => ?_)
    · skip
      have c_sh : w < 0 ∨ ¬ w ≤ nI 3 := Or.inl c_14
      refine k_throw d_X_shown_26 d_X_shown_29 d_X_shown_30 d_X_shown_33 (by decide) cX_74 w_iniNSE w_atNSE rfl (Nat.le_of_ble_eq_true rfl) (by decide) ?_
      have e9 : fShn σ (nI K) w = (nI 0, su σ 0 0 (nI 1)) := by
        unfold fShn
        rw [if_pos hk]
        by_cases q : w < 0
        · rw [if_pos q]
        · rw [if_neg q, if_neg (c_sh.resolve_left q)]
      rw [e9]
      exact ⟨rfl, Or.inr ⟨rfl, rfl, rfl⟩⟩
    · skip
      refine k_iload_n d_X_shown_17 rfl rfl ?_
      refine k_aload_n d_X_shown_18 rfl rfl ?_
      refine k_getR d_X_shown_19 fX_81 rfl (al_P hK3) (kd_P (3 + K)) (pt_P1 g (3 + K)) ?_
      refine k_alen d_X_shown_22 (al_F hK3) (kd_F (3 + K)) (ln_F g (3 + K)) ?_
      refine k_icmp_lt (tgt := 34) d_X_shown_23 (by decide) (fun c_23 => ?_) (fun c_23 => ?_)
      · skip
        obtain ⟨j, hj, rfl⟩ : ∃ j, j < 4 ∧ w = nI j := by
          obtain ⟨j, hj, rfl⟩ := nI_of c_14
          exact ⟨j, (nI_ltI hj (by decide)).mp c_23, rfl⟩
        have e9 : fShn σ (nI K) (nI j) = (σ 19 (4 * K + j), su σ 0 0 (nI 0)) := by
          unfold fShn
          rw [if_pos hk, if_neg c_14, if_pos (nI_le (by omega) (by decide)), nI_clamp (by omega), nI_clamp (by omega)]
        refine k_aload_n d_X_shown_34 rfl rfl ?_
        refine k_getR d_X_shown_35 fX_81 rfl (al_P hK3) (kd_P (3 + K)) (pt_P1 g (3 + K)) ?_
        refine k_iload_n d_X_shown_38 rfl rfl ?_
        refine k_iaload d_X_shown_39 (al_F hK3) (kd_F (3 + K)) (show vp_in _ (lnI g (idF (3 + K))) by rw [ln_F]; exact vp_in_nI hj (by decide)) ?_
        refine k_iret d_X_shown_40 rfl rfl ?_
        rw [e9]
        refine ⟨rfl, Or.inl ⟨rfl, ?_, rfl⟩⟩
        rw [nI_clamp (by omega), hKO.2.2.2 j hj]
      · skip
        have c_sh : w < 0 ∨ ¬ w ≤ nI 3 := Or.inr (fun z => c_23 (by
          rw [i_lt]
          rw [i_le] at z
          have e4 : (nI 4).toInt = 4 := by decide
          have e3 : (nI 3).toInt = 3 := by decide
          omega))
        refine k_throw d_X_shown_26 d_X_shown_29 d_X_shown_30 d_X_shown_33 (by decide) cX_74 w_iniNSE w_atNSE rfl (Nat.le_of_ble_eq_true rfl) (by decide) ?_
        have e9 : fShn σ (nI K) w = (nI 0, su σ 0 0 (nI 1)) := by
          unfold fShn
          rw [if_pos hk]
          by_cases q : w < 0
          · rw [if_pos q]
          · rw [if_neg q, if_neg (c_sh.resolve_left q)]
        rw [e9]
        exact ⟨rfl, Or.inr ⟨rfl, rfl, rfl⟩⟩
  · skip
    refine k_aload_n d_X_shown_0 rfl rfl ?_
    refine k_getR d_X_shown_1 fX_19 rfl (al_0 (by decide)) rfl rfl ?_
    refine k_iload_n d_X_shown_4 rfl rfl ?_
    refine k_callw (As := [_]) d_X_shown_5 lX_77 mv_R_keptPicture rfl rfl (al_0 (by decide)) rfl rfl rfl (Nat.le_of_ble_eq_true rfl) (by decide) (r_kp_n (h.np hk)) ?_
    refine k_astore_nN d_X_shown_8 rfl (Nat.le_of_ble_eq_true rfl) ?_
    refine k_aload_nN d_X_shown_9 rfl rfl ?_
    refine k_ifnullN (tgt := 26) d_X_shown_10 (by decide) ?_
    refine k_throw d_X_shown_26 d_X_shown_29 d_X_shown_30 d_X_shown_33 (by decide) cX_74 w_iniNSE w_atNSE rfl (Nat.le_of_ble_eq_true rfl) (by decide) ?_
    have e9 : fShn σ k w = (nI 0, su σ 0 0 (nI 1)) := if_neg hk
    rw [e9]
    exact ⟨rfl, Or.inr ⟨rfl, rfl, rfl⟩⟩

theorem x_dot {s0 : State} {l : Launch} {c : Cx} {g : Gh} {κ σ : Sg} {k p x y : Int32} (h : RL g κ σ) : ∃ A B, (fNL σ k p = 0 → okD σ A B) ∧ KC s0 l M_X_dot c [.ref (gA g 0), .int k, .int p, .int x, .int y] g κ (fun o g' κ' => o = .inl (some (.int (fDt σ A B k p x y))) ∧ g' = g ∧ κ' = κ) := by
  by_cases hl : fNL σ k p = 0
  · obtain ⟨hk, P, hP, rfl⟩ := nl_in hl
    obtain ⟨K, hK, rfl, hkl⟩ := np_in hk
    obtain ⟨A, B, hA, hD, hKO, hlt⟩ := h.kept hK hkl
    have hK3 : 3 + K < 3 + gC g := by have := hKO.1; omega
    refine ⟨A, B, fun _ => hD, ?_⟩
    refine k_in (by decide) rfl rfl (Nat.le_of_ble_eq_true rfl) (fun hB => ?_)
    refine k_aload_n d_X_dot_0 rfl rfl ?_
    refine k_getR d_X_dot_1 fX_19 rfl (al_0 (by decide)) rfl rfl ?_
    refine k_iload_n d_X_dot_4 rfl rfl ?_
    refine k_iload_n d_X_dot_5 rfl rfl ?_
    refine k_callw (As := [_, _]) d_X_dot_6 lX_86 mv_R_keptPlane rfl rfl (al_0 (by decide)) rfl rfl rfl (Nat.le_of_ble_eq_true rfl) (by decide) (r_kl_s hK hKO.1 hlt hP) ?_
    refine k_astore d_X_dot_9 (Nat.le_of_ble_eq_true rfl) ?_
    refine k_aload d_X_dot_11 rfl ?_
    refine k_ifnonnull (tgt := 20) d_X_dot_13 (by decide) ?_
    refine k_aload d_X_dot_20 rfl ?_
    refine k_iload_n d_X_dot_22 rfl rfl ?_
    refine k_iload d_X_dot_23 rfl ?_
    refine k_calli (As := [_, _]) d_X_dot_25 lX_90 mv_L_dotOrNone rfl rfl (al_L hK3 hP) (kd_L (3 + K) hP) rfl rfl (Nat.le_of_ble_eq_true rfl) (by decide) (l_dotOrNone (A := A) (B := B) hK3 hP hA (hKO.2.1 P hP)) ?_
    refine k_iret d_X_dot_28 rfl rfl ?_
    exact ⟨by rw [dot_e hA hD hP hKO hK hl], rfl, rfl⟩
  · refine ⟨1, 1, fun z => absurd z hl, ?_⟩
    refine k_in (by decide) rfl rfl (Nat.le_of_ble_eq_true rfl) (fun hB => ?_)
    by_cases hk : fNP σ k = 0
    · obtain ⟨K, hK, rfl, hkl⟩ := np_in hk
      obtain ⟨A, B, hA, hD, hKO, hlt⟩ := h.kept hK hkl
      refine k_aload_n d_X_dot_0 rfl rfl ?_
      refine k_getR d_X_dot_1 fX_19 rfl (al_0 (by decide)) rfl rfl ?_
      refine k_iload_n d_X_dot_4 rfl rfl ?_
      refine k_iload_n d_X_dot_5 rfl rfl ?_
      refine k_callw (As := [_, _]) d_X_dot_6 lX_86 mv_R_keptPlane rfl rfl (al_0 (by decide)) rfl rfl rfl (Nat.le_of_ble_eq_true rfl) (by decide) (r_kl_n2 hK hKO.1 hlt (nl_no hl hk)) ?_
      refine k_astoreN d_X_dot_9 (Nat.le_of_ble_eq_true rfl) ?_
      refine k_aloadN d_X_dot_11 rfl ?_
      refine k_ifnonnullN d_X_dot_13 ?_
      refine k_iconst (v := (-1)) d_X_dot_16 (by decide) ?_
      refine k_goto (tgt := 28) d_X_dot_17 (by decide) ?_
      refine k_iret d_X_dot_28 rfl rfl ?_
      have e9 : fDt σ 1 1 (nI K) p x y = -1 := if_neg hl
      rw [e9]
      exact ⟨rfl, rfl, rfl⟩
    · skip
      refine k_aload_n d_X_dot_0 rfl rfl ?_
      refine k_getR d_X_dot_1 fX_19 rfl (al_0 (by decide)) rfl rfl ?_
      refine k_iload_n d_X_dot_4 rfl rfl ?_
      refine k_iload_n d_X_dot_5 rfl rfl ?_
      refine k_callw (As := [_, _]) d_X_dot_6 lX_86 mv_R_keptPlane rfl rfl (al_0 (by decide)) rfl rfl rfl (Nat.le_of_ble_eq_true rfl) (by decide) (r_kl_n1 (h.np hk)) ?_
      refine k_astoreN d_X_dot_9 (Nat.le_of_ble_eq_true rfl) ?_
      refine k_aloadN d_X_dot_11 rfl ?_
      refine k_ifnonnullN d_X_dot_13 ?_
      refine k_iconst (v := (-1)) d_X_dot_16 (by decide) ?_
      refine k_goto (tgt := 28) d_X_dot_17 (by decide) ?_
      refine k_iret d_X_dot_28 rfl rfl ?_
      have e9 : fDt σ 1 1 k p x y = -1 := if_neg hl
      rw [e9]
      exact ⟨rfl, rfl, rfl⟩

theorem x_sum {s0 : State} {l : Launch} {c : Cx} {g : Gh} {κ σ : Sg} {k p : Int32} (h : RL g κ σ) : ∃ A B, (fNL σ k p = 0 → okD σ A B) ∧ KC s0 l M_X_sum c [.ref (gA g 0), .int k, .int p] g κ (fun o g' κ' => o = .inl (some (.int (fSu σ A B k p))) ∧ g' = g ∧ κ' = κ) := by
  by_cases hl : fNL σ k p = 0
  · obtain ⟨hk, P, hP, rfl⟩ := nl_in hl
    obtain ⟨K, hK, rfl, hkl⟩ := np_in hk
    obtain ⟨A, B, hA, hD, hKO, hlt⟩ := h.kept hK hkl
    have hK3 : 3 + K < 3 + gC g := by have := hKO.1; omega
    refine ⟨A, B, fun _ => hD, ?_⟩
    refine k_in (by decide) rfl rfl (Nat.le_of_ble_eq_true rfl) (fun hB => ?_)
    refine k_aload_n d_X_sum_0 rfl rfl ?_
    refine k_getR d_X_sum_1 fX_19 rfl (al_0 (by decide)) rfl rfl ?_
    refine k_iload_n d_X_sum_4 rfl rfl ?_
    refine k_iload_n d_X_sum_5 rfl rfl ?_
    refine k_callw (As := [_, _]) d_X_sum_6 lX_86 mv_R_keptPlane rfl rfl (al_0 (by decide)) rfl rfl rfl (Nat.le_of_ble_eq_true rfl) (by decide) (r_kl_s hK hKO.1 hlt hP) ?_
    refine k_astore_n d_X_sum_9 rfl (Nat.le_of_ble_eq_true rfl) ?_
    refine k_aload_n d_X_sum_10 rfl rfl ?_
    refine k_ifnonnull (tgt := 18) d_X_sum_11 (by decide) ?_
    refine k_aload_n d_X_sum_18 rfl rfl ?_
    refine k_calli (As := []) d_X_sum_19 lX_95 mv_L_numberedTotal rfl rfl (al_L hK3 hP) (kd_L (3 + K) hP) rfl rfl (Nat.le_of_ble_eq_true rfl) (by decide) (l_numberedTotal (A := A) (B := B) hK3 hP hA (hKO.2.1 P hP)) ?_
    refine k_iret d_X_sum_22 rfl rfl ?_
    exact ⟨by rw [sum_e hP hKO hK hl], rfl, rfl⟩
  · refine ⟨1, 1, fun z => absurd z hl, ?_⟩
    refine k_in (by decide) rfl rfl (Nat.le_of_ble_eq_true rfl) (fun hB => ?_)
    by_cases hk : fNP σ k = 0
    · obtain ⟨K, hK, rfl, hkl⟩ := np_in hk
      obtain ⟨A, B, hA, hD, hKO, hlt⟩ := h.kept hK hkl
      refine k_aload_n d_X_sum_0 rfl rfl ?_
      refine k_getR d_X_sum_1 fX_19 rfl (al_0 (by decide)) rfl rfl ?_
      refine k_iload_n d_X_sum_4 rfl rfl ?_
      refine k_iload_n d_X_sum_5 rfl rfl ?_
      refine k_callw (As := [_, _]) d_X_sum_6 lX_86 mv_R_keptPlane rfl rfl (al_0 (by decide)) rfl rfl rfl (Nat.le_of_ble_eq_true rfl) (by decide) (r_kl_n2 hK hKO.1 hlt (nl_no hl hk)) ?_
      refine k_astore_nN d_X_sum_9 rfl (Nat.le_of_ble_eq_true rfl) ?_
      refine k_aload_nN d_X_sum_10 rfl rfl ?_
      refine k_ifnonnullN d_X_sum_11 ?_
      refine k_iconst (v := (-1)) d_X_sum_14 (by decide) ?_
      refine k_goto (tgt := 22) d_X_sum_15 (by decide) ?_
      refine k_iret d_X_sum_22 rfl rfl ?_
      have e9 : fSu σ 1 1 (nI K) p = -1 := if_neg hl
      rw [e9]
      exact ⟨rfl, rfl, rfl⟩
    · skip
      refine k_aload_n d_X_sum_0 rfl rfl ?_
      refine k_getR d_X_sum_1 fX_19 rfl (al_0 (by decide)) rfl rfl ?_
      refine k_iload_n d_X_sum_4 rfl rfl ?_
      refine k_iload_n d_X_sum_5 rfl rfl ?_
      refine k_callw (As := [_, _]) d_X_sum_6 lX_86 mv_R_keptPlane rfl rfl (al_0 (by decide)) rfl rfl rfl (Nat.le_of_ble_eq_true rfl) (by decide) (r_kl_n1 (h.np hk)) ?_
      refine k_astore_nN d_X_sum_9 rfl (Nat.le_of_ble_eq_true rfl) ?_
      refine k_aload_nN d_X_sum_10 rfl rfl ?_
      refine k_ifnonnullN d_X_sum_11 ?_
      refine k_iconst (v := (-1)) d_X_sum_14 (by decide) ?_
      refine k_goto (tgt := 22) d_X_sum_15 (by decide) ?_
      refine k_iret d_X_sum_22 rfl rfl ?_
      have e9 : fSu σ 1 1 k p = -1 := if_neg hl
      rw [e9]
      exact ⟨rfl, rfl, rfl⟩

