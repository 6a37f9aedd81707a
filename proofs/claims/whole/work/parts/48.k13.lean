/-! ===== vectors, ways, foretelling a square ===== -/

theorem s_rv_l {s0 : State} {l : Launch} {c : Cx} {hB : Mem} {g : Gh} {R w : Nat} (hV : okV R) (hw : w < 2) : ∀ (n k : Nat) (y : Option Value) (κ τ : Sg), k + n = 2 → k ≤ 2 → VL R w k κ τ → KQ s0 l M_S_readVector c hB 9 [some (.ref (gA g 6)), some (.ref (gA g (11 + w))), some (.int (nI R / nI 2)), some (.int (nI k)), y] [] g κ (EP [1, 11 + w] g κ (fVc (nI R) n (2 * w + k) τ).2 (fun κ' => ¬ (fVc (nI R) n (2 * w + k) τ).1 = 0 ∧ TRel κ' (fVc (nI R) n (2 * w + k) τ).2 ∧ TA κ' (fVc (nI R) n (2 * w + k) τ).2 ∧ VW w 2 κ' (fVc (nI R) n (2 * w + k) τ).2 ∧ VG R (fVc (nI R) n (2 * w + k) τ).2)) := by
  have hln : lnI g (11 + w) = 2 := by rcases (show w = 0 ∨ w = 1 by omega) with rfl | rfl <;> rfl
  intro n
  induction n with
  | zero =>
    intro k y κ τ hk hk2 hL
    refine k_iload_n d_S_readVector_9 rfl rfl ?_
    refine k_aload_n d_S_readVector_10 rfl rfl ?_
    refine k_alen d_S_readVector_11 (al_0 (show 11 + w < 13 by omega)) (show kdI (11 + w) = 11 by rcases (show w = 0 ∨ w = 1 by omega) with rfl | rfl <;> rfl) hln ?_
    refine k_icmp_ge (tgt := 77) d_S_readVector_12 (by decide) (fun c_12 => ?_) (fun c_12 => ?_)
    · skip
      refine k_vret d_S_readVector_77 rfl ?_
      have ek : k = 2 := by omega
      subst ek
      obtain ⟨h1, h2, h3, h4, h5⟩ := hL
      exact ⟨kp.refl _ _, Or.inl ⟨h1.2.2.2.1, rfl, rfl, (show ¬ nI 1 = 0 by decide), h1, h2, h4, h5⟩⟩
    · exact absurd (nI_le (show 2 ≤ k by omega) (by omega)) c_12
  | succ n ih =>
    intro k y κ τ hk hk3 hL
    have hk2 : k < 2 := by omega
    refine k_iload_n d_S_readVector_9 rfl rfl ?_
    refine k_aload_n d_S_readVector_10 rfl rfl ?_
    refine k_alen d_S_readVector_11 (al_0 (show 11 + w < 13 by omega)) (show kdI (11 + w) = 11 by rcases (show w = 0 ∨ w = 1 by omega) with rfl | rfl <;> rfl) hln ?_
    refine k_icmp_ge (tgt := 77) d_S_readVector_12 (by decide) (fun c_12 => ?_) (fun c_12 => ?_)
    · exact absurd ((nI_leI (by decide) (by omega)).mp c_12) (by omega)
    · skip
      refine k_aload_n d_S_readVector_15 rfl rfl ?_
      refine k_iload_n d_S_readVector_16 rfl rfl ?_
      refine k_iaload d_S_readVector_17 (al_0 (show 11 + w < 13 by omega)) (show kdI (11 + w) = 11 by rcases (show w = 0 ∨ w = 1 by omega) with rfl | rfl <;> rfl) (show vp_in _ (lnI g (11 + w)) by rw [hln]; exact vp_in_nI hk2 (by decide)) ?_
      refine k_top (show _ = τ (29) (2 * w + k) by rw [nI_clamp (by omega)]; exact hL.2.2.2.1.1 k hk2) ?_
      refine k_aload_n d_S_readVector_18 rfl rfl ?_
      refine k_getR d_S_readVector_19 fS_28 rfl (al_0 (by decide)) rfl rfl ?_
      refine k_iload_n d_S_readVector_22 rfl rfl ?_
      refine k_ineg d_S_readVector_23 ?_
      refine k_iload_n d_S_readVector_24 rfl rfl ?_
      refine k_iconst (v := nI 1) d_S_readVector_25 (by decide) ?_
      refine k_isub d_S_readVector_26 ?_
      refine k_callT (As := [_, _]) d_S_readVector_27 lS_148 mv_T_signed rfl rfl (al_0 (by decide)) rfl rfl rfl (Nat.le_of_ble_eq_true rfl) (by decide) (t_signed hL.1) (fun w_27 => ?_) (fun w_27 x_27 => ?_)
      · skip
        obtain ⟨v1, v2, v3, v4⟩ := ss_wm hL.1.1 hL.1.2.2.2.1 w_27
        obtain ⟨e9, hs1, hs2⟩ := vc_s (n := n) (k := 2 * w + k) hV hL.1.1 hL.1.2.2.2.1 w_27
        rw [v1]
        have h68 : su κ 1 2 ((fU 22 0 τ).2 4 0) 6 8 = nI R := (su_k (by decide)).trans hL.2.2.1
        obtain ⟨q1, q2, -⟩ := hlf hV
        refine k_iadd d_S_readVector_30 ?_
        refine k_istore d_S_readVector_31 (Nat.le_of_ble_eq_true rfl) ?_
        refine k_aload_n d_S_readVector_33 rfl rfl ?_
        refine k_iload_n d_S_readVector_34 rfl rfl ?_
        refine k_iload d_S_readVector_35 rfl ?_
        refine k_iload_n d_S_readVector_37 rfl rfl ?_
        refine k_ineg d_S_readVector_38 ?_
        refine k_icmp_ge (tgt := 52) d_S_readVector_39 (by decide) (fun c_39 => ?_) (fun c_39 => ?_)
        · skip
          refine k_iload d_S_readVector_52 rfl ?_
          refine k_iload_n d_S_readVector_54 rfl rfl ?_
          refine k_icmp_lt (tgt := 68) d_S_readVector_55 (by decide) (fun c_55 => ?_) (fun c_55 => ?_)
          · skip
            refine k_iload d_S_readVector_68 rfl ?_
            refine k_iastore d_S_readVector_70 (al_0 (show 11 + w < 13 by omega)) (show kdI (11 + w) = 11 by rcases (show w = 0 ∨ w = 1 by omega) with rfl | rfl <;> rfl) (show vp_in _ (lnI g (11 + w)) by rw [hln]; exact vp_in_nI hk2 (by decide)) ?_
            rw [nI_clamp (show k < 2 ^ 31 by omega)]
            first | refine k_iinc1 d_S_readVector_71 rfl ?_ | refine k_iinc d_S_readVector_71 rfl ?_
            refine k_goto (tgt := 9) d_S_readVector_74 (by decide) ?_
            rw [show 2 * w + k + 1 = 2 * w + (k + 1) by omega] at e9
            have hv : τ 29 (2 * w + k) + sgnU (fU 22 0 τ).1 = vwr (nI R) (τ 29 (2 * w + k) + sgnU (fU 22 0 τ).1) := by
              unfold vwr
              rw [q2] at *
              rw [q1]
              rw [if_pos c_39, if_pos c_55]
            rw [← hv] at e9
            rw [e9]
            have hL2 := hL.step hV hw hk2 v2 rfl hs1 hs2 hv
            exact KQ.mono (ih (k + 1) _ _ _ (by omega) (by omega) hL2) (fun o g' κ' z => EP.up (S := [1, 11 + w]) (κ := κ) z (kasu (by simp) (kasu (by simp) (kp.refl _ _))))
          · skip
            refine k_iload d_S_readVector_58 rfl ?_
            refine k_aload_n d_S_readVector_60 rfl rfl ?_
            refine k_getE d_S_readVector_61 fS_100 rfl (al_0 (by decide)) rfl h68 ?_
            refine k_isub d_S_readVector_64 ?_
            refine k_goto (tgt := 70) d_S_readVector_65 (by decide) ?_
            refine k_iastore d_S_readVector_70 (al_0 (show 11 + w < 13 by omega)) (show kdI (11 + w) = 11 by rcases (show w = 0 ∨ w = 1 by omega) with rfl | rfl <;> rfl) (show vp_in _ (lnI g (11 + w)) by rw [hln]; exact vp_in_nI hk2 (by decide)) ?_
            rw [nI_clamp (show k < 2 ^ 31 by omega)]
            first | refine k_iinc1 d_S_readVector_71 rfl ?_ | refine k_iinc d_S_readVector_71 rfl ?_
            refine k_goto (tgt := 9) d_S_readVector_74 (by decide) ?_
            rw [show 2 * w + k + 1 = 2 * w + (k + 1) by omega] at e9
            have hv : τ 29 (2 * w + k) + sgnU (fU 22 0 τ).1 - nI R = vwr (nI R) (τ 29 (2 * w + k) + sgnU (fU 22 0 τ).1) := by
              unfold vwr
              rw [q2] at *
              rw [q1]
              rw [if_pos c_39, if_neg c_55]
            rw [← hv] at e9
            rw [e9]
            have hL2 := hL.step hV hw hk2 v2 rfl hs1 hs2 hv
            exact KQ.mono (ih (k + 1) _ _ _ (by omega) (by omega) hL2) (fun o g' κ' z => EP.up (S := [1, 11 + w]) (κ := κ) z (kasu (by simp) (kasu (by simp) (kp.refl _ _))))
        · skip
          refine k_iload d_S_readVector_42 rfl ?_
          refine k_aload_n d_S_readVector_44 rfl rfl ?_
          refine k_getE d_S_readVector_45 fS_100 rfl (al_0 (by decide)) rfl h68 ?_
          refine k_iadd d_S_readVector_48 ?_
          refine k_goto (tgt := 70) d_S_readVector_49 (by decide) ?_
          refine k_iastore d_S_readVector_70 (al_0 (show 11 + w < 13 by omega)) (show kdI (11 + w) = 11 by rcases (show w = 0 ∨ w = 1 by omega) with rfl | rfl <;> rfl) (show vp_in _ (lnI g (11 + w)) by rw [hln]; exact vp_in_nI hk2 (by decide)) ?_
          rw [nI_clamp (show k < 2 ^ 31 by omega)]
          first | refine k_iinc1 d_S_readVector_71 rfl ?_ | refine k_iinc d_S_readVector_71 rfl ?_
          refine k_goto (tgt := 9) d_S_readVector_74 (by decide) ?_
          rw [show 2 * w + k + 1 = 2 * w + (k + 1) by omega] at e9
          have hv : τ 29 (2 * w + k) + sgnU (fU 22 0 τ).1 + nI R = vwr (nI R) (τ 29 (2 * w + k) + sgnU (fU 22 0 τ).1) := by
            unfold vwr
            rw [q2] at *
            rw [q1]
            rw [if_neg c_39]
          rw [← hv] at e9
          rw [e9]
          have hL2 := hL.step hV hw hk2 v2 rfl hs1 hs2 hv
          exact KQ.mono (ih (k + 1) _ _ _ (by omega) (by omega) hL2) (fun o g' κ' z => EP.up (S := [1, 11 + w]) (κ := κ) z (kasu (by simp) (kasu (by simp) (kp.refl _ _))))
      · skip
        have e9 := vc_f (n := n) (k := 2 * w + k) hV hL.1.1 hL.1.2.2.2.1 w_27
        rw [e9]
        exact EP.thr (by simp) w_27 rfl rfl ⟨hL.2.1, hL.1.2.2.1⟩ (tk_kp (tk_ss _ _ _))

theorem s_readVector {s0 : State} {l : Launch} {c : Cx} {g : Gh} {κ : Sg} {σ : Sg} {R w : Nat} (hV : okV R) (hw : w < 2) (hL : VL R w 0 κ σ) : KC s0 l M_S_readVector c [.ref (gA g 6), .ref (gA g (11 + w))] g κ (EP [1, 11 + w] g κ (fVc (nI R) 2 (2 * w) σ).2 (fun κ' => ¬ (fVc (nI R) 2 (2 * w) σ).1 = 0 ∧ TRel κ' (fVc (nI R) 2 (2 * w) σ).2 ∧ TA κ' (fVc (nI R) 2 (2 * w) σ).2 ∧ VW w 2 κ' (fVc (nI R) 2 (2 * w) σ).2 ∧ VG R (fVc (nI R) 2 (2 * w) σ).2)) := by
  refine k_in (by decide) rfl rfl (Nat.le_of_ble_eq_true rfl) (fun hB => ?_)
  refine k_aload_n d_S_readVector_0 rfl rfl ?_
  refine k_getE d_S_readVector_1 fS_100 rfl (al_0 (by decide)) rfl hL.2.2.1 ?_
  refine k_iconst (v := nI 2) d_S_readVector_4 (by decide) ?_
  refine k_idiv d_S_readVector_5 (by decide) ?_
  refine k_istore_n d_S_readVector_6 rfl (Nat.le_of_ble_eq_true rfl) ?_
  refine k_iconst (v := nI 0) d_S_readVector_7 (by decide) ?_
  refine k_istore_n d_S_readVector_8 rfl (Nat.le_of_ble_eq_true rfl) ?_
  exact s_rv_l hV hw 2 0 _ κ σ rfl (by decide) hL

theorem s_waysP {s0 : State} {l : Launch} {c : Cx} {g : Gh} {κ : Sg} {σ : Sg} (hT : TRel κ σ) (h6 : κ 6 6 = nI 2) : KC s0 l M_S_readWays c [.ref (gA g 6)] g κ (RdP g κ (fBit σ).2 (some (.int (if (fBit σ).1 = nI 1 then nI 2 else nI 0)))) := by
  refine k_in (by decide) rfl rfl (Nat.le_of_ble_eq_true rfl) (fun hB => ?_)
  refine k_aload_n d_S_readWays_0 rfl rfl ?_
  refine k_getE d_S_readWays_1 fS_61 rfl (al_0 (by decide)) rfl h6 ?_
  refine k_iconst (v := nI 2) d_S_readWays_4 (by decide) ?_
  refine k_icmp_ne (tgt := 25) d_S_readWays_5 (by decide) (fun c_5 => ?_) (fun c_5 => ?_)
  · exact absurd rfl c_5
  · skip
    refine k_aload_n d_S_readWays_8 rfl rfl ?_
    refine k_getR d_S_readWays_9 fS_28 rfl (al_0 (by decide)) rfl rfl ?_
    refine k_callT (As := []) d_S_readWays_12 lS_54 mv_T_next rfl rfl (al_0 (by decide)) rfl rfl rfl (Nat.le_of_ble_eq_true rfl) (by decide) (t_next hT) (fun w_12 => ?_) (fun w_12 x_12 => ?_)
    · skip
      refine k_iconst (v := nI 1) d_S_readWays_15 (by decide) ?_
      refine k_icmp_ne (tgt := 23) d_S_readWays_16 (by decide) (fun c_16 => ?_) (fun c_16 => ?_)
      · skip
        refine k_iconst (v := nI 0) d_S_readWays_23 (by decide) ?_
        refine k_iret d_S_readWays_24 rfl rfl ?_
        first
          | (have c9 := Classical.not_not.mp c_16
             rw [if_pos c9]
             exact Or.inl ⟨w_12, rfl, rfl, rfl⟩)
          | (have c9 := c_16
             rw [if_pos c9]
             exact Or.inl ⟨w_12, rfl, rfl, rfl⟩)
          | (rw [if_neg c_16]
             exact Or.inl ⟨w_12, rfl, rfl, rfl⟩)
      · skip
        refine k_iconst (v := nI 2) d_S_readWays_19 (by decide) ?_
        refine k_goto (tgt := 24) d_S_readWays_20 (by decide) ?_
        refine k_iret d_S_readWays_24 rfl rfl ?_
        first
          | (have c9 := Classical.not_not.mp c_16
             rw [if_pos c9]
             exact Or.inl ⟨w_12, rfl, rfl, rfl⟩)
          | (have c9 := c_16
             rw [if_pos c9]
             exact Or.inl ⟨w_12, rfl, rfl, rfl⟩)
          | (rw [if_neg c_16]
             exact Or.inl ⟨w_12, rfl, rfl, rfl⟩)
    · skip
      exact RdP.thr w_12 rfl rfl

theorem s_waysB {s0 : State} {l : Launch} {c : Cx} {g : Gh} {κ : Sg} {σ : Sg} (hT : TRel κ σ) (h6 : κ 6 6 = nI 3) : KC s0 l M_S_readWays c [.ref (gA g 6)] g κ (RdP g κ (fNA 2 σ).2 (some (.int (fNA 2 σ).1))) := by
  refine k_in (by decide) rfl rfl (Nat.le_of_ble_eq_true rfl) (fun hB => ?_)
  refine k_aload_n d_S_readWays_0 rfl rfl ?_
  refine k_getE d_S_readWays_1 fS_61 rfl (al_0 (by decide)) rfl h6 ?_
  refine k_iconst (v := nI 2) d_S_readWays_4 (by decide) ?_
  refine k_icmp_ne (tgt := 25) d_S_readWays_5 (by decide) (fun c_5 => ?_) (fun c_5 => ?_)
  · skip
    refine k_aload_n d_S_readWays_25 rfl rfl ?_
    refine k_getR d_S_readWays_26 fS_28 rfl (al_0 (by decide)) rfl rfl ?_
    refine k_iconst (v := nI 2) d_S_readWays_29 (by decide) ?_
    refine k_callT (As := [_]) d_S_readWays_30 lS_88 mv_T_nonZero rfl rfl (al_0 (by decide)) rfl rfl rfl (Nat.le_of_ble_eq_true rfl) (by decide) (t_nonZero (n := 2) hT (by decide) (by decide)) (fun w_30 => ?_) (fun w_30 x_30 => ?_)
    · skip
      refine k_iret d_S_readWays_33 rfl rfl ?_
      exact Or.inl ⟨w_30, rfl, rfl, rfl⟩
    · skip
      exact RdP.thr w_30 rfl rfl
  · exact absurd c_5 (by decide)

theorem s_most {s0 : State} {l : Launch} {c : Cx} {g : Gh} {κ : Sg} {A s W : Nat} (hA : 1 ≤ A ∧ A ≤ 4) (hs : s < 100) (ha : κ 3 2 = nI A) (hW : κ 6 9 = nI W) (hW4 : W < 4) : KC s0 l M_S_mostPassedInB c [.ref (gA g 6), .int (nI s)] g κ (fun o g' κ' => o = .inl (some (.int (nI (if s % A = 0 ∨ W = 0 then 0 else A - s % A)))) ∧ g' = g ∧ κ' = κ) := by
  refine k_in (by decide) rfl rfl (Nat.le_of_ble_eq_true rfl) (fun hB => ?_)
  have hsA : s % A < A := Nat.mod_lt _ (by omega)
  refine k_iload_n d_S_mostPassedInB_0 rfl rfl ?_
  refine k_aload_n d_S_mostPassedInB_1 rfl rfl ?_
  refine k_getR d_S_mostPassedInB_2 fS_32 rfl (al_0 (by decide)) rfl rfl ?_
  refine k_getE d_S_mostPassedInB_5 fS_68 rfl (al_0 (by decide)) rfl ha ?_
  refine k_iremN d_S_mostPassedInB_8 ⟨by omega, by omega, by omega⟩ ?_
  refine k_istore_n d_S_mostPassedInB_9 rfl (Nat.le_of_ble_eq_true rfl) ?_
  refine k_iload_n d_S_mostPassedInB_10 rfl rfl ?_
  refine k_if_eq (tgt := 21) d_S_mostPassedInB_11 (by decide) (fun c_11 => ?_) (fun c_11 => ?_)
  · skip
    refine k_iconst (v := nI 0) d_S_mostPassedInB_21 (by decide) ?_
    refine k_goto (tgt := 34) d_S_mostPassedInB_22 (by decide) ?_
    refine k_iret d_S_mostPassedInB_34 rfl rfl ?_
    refine ⟨?_, rfl, rfl⟩
    first
      | (have e9 : s % A = 0 := (nI_eq (b := 0) (by omega) (by decide)).mp c_11
         rw [if_pos (Or.inl e9)])
      | (have e9 : W = 0 := (nI_eq (b := 0) (by omega) (by decide)).mp c_18
         rw [if_pos (Or.inr e9)])
      | (have e8 : ¬ s % A = 0 := fun z => c_11 (by rw [z]; rfl)
         have e9 : ¬ W = 0 := fun z => c_18 (by rw [z]; rfl)
         rw [if_neg (fun z => z.elim e8 e9)])
  · skip
    refine k_aload_n d_S_mostPassedInB_14 rfl rfl ?_
    refine k_getE d_S_mostPassedInB_15 fS_109 rfl (al_0 (by decide)) rfl hW ?_
    refine k_if_ne (tgt := 25) d_S_mostPassedInB_18 (by decide) (fun c_18 => ?_) (fun c_18 => ?_)
    · skip
      refine k_aload_n d_S_mostPassedInB_25 rfl rfl ?_
      refine k_getR d_S_mostPassedInB_26 fS_32 rfl (al_0 (by decide)) rfl rfl ?_
      refine k_getE d_S_mostPassedInB_29 fS_68 rfl (al_0 (by decide)) rfl ha ?_
      refine k_iload_n d_S_mostPassedInB_32 rfl rfl ?_
      refine k_isubN d_S_mostPassedInB_33 (by omega) ?_
      refine k_iret d_S_mostPassedInB_34 rfl rfl ?_
      refine ⟨?_, rfl, rfl⟩
      first
        | (have e9 : s % A = 0 := (nI_eq (b := 0) (by omega) (by decide)).mp c_11
           rw [if_pos (Or.inl e9)])
        | (have e9 : W = 0 := (nI_eq (b := 0) (by omega) (by decide)).mp c_18
           rw [if_pos (Or.inr e9)])
        | (have e8 : ¬ s % A = 0 := fun z => c_11 (by rw [z]; rfl)
           have e9 : ¬ W = 0 := fun z => c_18 (by rw [z]; rfl)
           rw [if_neg (fun z => z.elim e8 e9)])
    · skip
      refine k_iconst (v := nI 0) d_S_mostPassedInB_21 (by decide) ?_
      refine k_goto (tgt := 34) d_S_mostPassedInB_22 (by decide) ?_
      refine k_iret d_S_mostPassedInB_34 rfl rfl ?_
      refine ⟨?_, rfl, rfl⟩
      first
        | (have e9 : s % A = 0 := (nI_eq (b := 0) (by omega) (by decide)).mp c_11
           rw [if_pos (Or.inl e9)])
        | (have e9 : W = 0 := (nI_eq (b := 0) (by omega) (by decide)).mp c_18
           rw [if_pos (Or.inr e9)])
        | (have e8 : ¬ s % A = 0 := fun z => c_11 (by rw [z]; rfl)
           have e9 : ¬ W = 0 := fun z => c_18 (by rw [z]; rfl)
           rw [if_neg (fun z => z.elim e8 e9)])

theorem s_fs_l {s0 : State} {l : Launch} {c : Cx} {hB : Mem} {g : Gh} {κ : Sg} {A B s qa : Nat} {ah bk w3 : Int32} (hA : okAB A B) (hG : okG g) (hCI : CI g κ) (hQ : okQ g κ (gN g) A B) (hs : s < A * B) (hqa : qa < 3 + gC g) (hNa : gN g ≠ qa) (hla : ∀ p, p < 3 → wdN A p * wdN B p ≤ gL g (idD qa p)) (hlT : ∀ p, p < 3 → wdN A p * wdN B p ≤ gL g (idD (gT g) p)) : ∀ (n i : Nat) (y : Option Value), i + n = 3 → KQ s0 l M_S_foretellSquare c hB 98 [some (.ref (gA g 6)), some (.int (nI s)), some (.int w3), some (.int bk), some (.int ah), some (.int (nI (s % A))), some (.int (nI (s / A))), some (.ref (gA g (idP qa))), some (.int (nI i)), y] [] g (cTel (gN g) qa (gT g) A B s ah bk κ i) (fun o g' κ' => o = .inl none ∧ g' = g ∧ κ' = cTel (gN g) qa (gT g) A B s ah bk κ 3) := by
  have hqN : gN g < 3 + gC g := by have := hG.1; omega
  have hqT : gT g < 3 + gC g := by have := hG.1; omega
  have hNT : gN g ≠ gT g := hG.1.2.2.2.1
  have hsB : s / A < B := Nat.div_lt_of_lt_mul hs
  have hsA : s % A < A := Nat.mod_lt _ (by have := hA.1; omega)
  intro n
  induction n with
  | zero =>
    intro i y hi
    refine k_iload d_S_foretellSquare_98 rfl ?_
    refine k_iconst (v := nI 3) d_S_foretellSquare_100 (by decide) ?_
    refine k_icmp_ge (tgt := 184) d_S_foretellSquare_101 (by decide) (fun c_101 => ?_) (fun c_101 => ?_)
    · skip
      refine k_vret d_S_foretellSquare_184 rfl ?_
      have ei : i = 3 := by omega
      subst ei
      exact ⟨rfl, rfl, rfl⟩
    · exact absurd (nI_le (show 3 ≤ i by omega) (by omega)) c_101
  | succ n ih =>
    intro i y hi
    have hi3 : i < 3 := by omega
    have hP : ∀ (κ2 : Sg), (∀ j, κ2 (idL (gN g) i) j = cTel (gN g) qa (gT g) A B s ah bk κ i (idL (gN g) i) j) → okP g κ2 (gN g) i A B := fun κ2 h9 => by
      have e : ∀ j, κ2 (idL (gN g) i) j = κ (idL (gN g) i) j := fun j => (h9 j).trans (tel_k i (fun p hp => id_LD _ _ _ _ hi3 (by omega)))
      have h8 := hQ i hi3
      exact ⟨(e 0).trans h8.1, (e 1).trans h8.2.1, (e 2).trans h8.2.2.1, h8.2.2.2⟩
    skip
    refine k_iload d_S_foretellSquare_98 rfl ?_
    refine k_iconst (v := nI 3) d_S_foretellSquare_100 (by decide) ?_
    refine k_icmp_ge (tgt := 184) d_S_foretellSquare_101 (by decide) (fun c_101 => ?_) (fun c_101 => ?_)
    · exact absurd ((nI_leI (by decide) (by omega)).mp c_101) (by omega)
    · skip
      refine k_aload_n d_S_foretellSquare_104 rfl rfl ?_
      refine k_getR d_S_foretellSquare_105 fS_32 rfl (al_0 (by decide)) rfl rfl ?_
      refine k_getR d_S_foretellSquare_108 fS_115 rfl (al_0 (by decide)) rfl rfl ?_
      refine k_getR d_S_foretellSquare_111 fS_157 rfl (al_P hqN) (kd_P (gN g)) (pt_P0 g (gN g)) ?_
      refine k_iload d_S_foretellSquare_114 rfl ?_
      refine k_aaload (ci := 2) d_S_foretellSquare_116 (by decide) (al_A hqN) (kd_A (gN g)) (show vp_in _ (lnI g (idA (gN g))) by rw [ln_A]; exact vp_in_nI hi3 (by decide)) (by rw [nI_clamp (by omega)]; exact pt_A g (gN g) hi3) ?_
      refine k_astore d_S_foretellSquare_117 (Nat.le_of_ble_eq_true rfl) ?_
      refine k_iload d_S_foretellSquare_119 rfl ?_
      refine k_if_eq (tgt := 146) d_S_foretellSquare_121 (by decide) (fun c_121 => ?_) (fun c_121 => ?_)
      · skip
        refine k_iload_n d_S_foretellSquare_146 rfl rfl ?_
        refine k_if_eq (tgt := 178) d_S_foretellSquare_147 (by decide) (fun c_147 => ?_) (fun c_147 => ?_)
        · skip
          first | refine k_iinc1 d_S_foretellSquare_178 rfl ?_ | refine k_iinc d_S_foretellSquare_178 rfl ?_
          refine k_goto (tgt := 98) d_S_foretellSquare_181 (by decide) ?_
          skip
          refine k_st (κ2 := cTel (gN g) qa (gT g) A B s ah bk κ (i + 1)) ?_ (ih (i + 1) _ (by omega))
          show _ = cPl (gN g) qa (gT g) A B s ah bk i (cTel (gN g) qa (gT g) A B s ah bk κ i)
          unfold cPl cPl1
          rw [if_pos c_147, if_pos c_121]
        · skip
          refine k_aload d_S_foretellSquare_150 rfl ?_
          refine k_aload_n d_S_foretellSquare_152 rfl rfl ?_
          refine k_getR d_S_foretellSquare_153 fS_32 rfl (al_0 (by decide)) rfl rfl ?_
          refine k_getR d_S_foretellSquare_156 fS_151 rfl (al_0 (by decide)) rfl rfl ?_
          refine k_getR d_S_foretellSquare_159 fS_157 rfl (al_P hqT) (kd_P (gT g)) (pt_P0 g (gT g)) ?_
          refine k_iload d_S_foretellSquare_162 rfl ?_
          refine k_aaload (ci := 2) d_S_foretellSquare_164 (by decide) (al_A hqT) (kd_A (gT g)) (show vp_in _ (lnI g (idA (gT g))) by rw [ln_A]; exact vp_in_nI hi3 (by decide)) (by rw [nI_clamp (by omega)]; exact pt_A g (gT g) hi3) ?_
          refine k_iload d_S_foretellSquare_165 rfl ?_
          refine k_iload d_S_foretellSquare_167 rfl ?_
          refine k_aload_n d_S_foretellSquare_169 rfl rfl ?_
          refine k_getR d_S_foretellSquare_170 fS_25 rfl (al_0 (by decide)) rfl rfl ?_
          refine k_iload d_S_foretellSquare_173 rfl ?_
          refine k_callv (As := [_, _, _, _, _]) d_S_foretellSquare_175 lS_161 mv_L_foretell rfl rfl (al_L hqN hi3) (kd_L (gN g) hi3) rfl rfl (Nat.le_of_ble_eq_true rfl) (by decide) (l_foretell (q := gN g) (q2 := gT g) (p := i) (A := A) (B := B) (cl := s % A) (rw := s / A) (vi := 12) hqN hqT hNT hi3 hA (hP _ (fun j => by first | exact sa_k (id_LD _ _ _ _ hi3 hi3) | rfl)) (hlT i hi3) (hCI _ i hqT hi3).1 (al_0 (by decide)) rfl rfl hsA hsB) ?_
          first | refine k_iinc1 d_S_foretellSquare_178 rfl ?_ | refine k_iinc d_S_foretellSquare_178 rfl ?_
          refine k_goto (tgt := 98) d_S_foretellSquare_181 (by decide) ?_
          skip
          refine k_st (κ2 := cTel (gN g) qa (gT g) A B s ah bk κ (i + 1)) ?_ (ih (i + 1) _ (by omega))
          show _ = cPl (gN g) qa (gT g) A B s ah bk i (cTel (gN g) qa (gT g) A B s ah bk κ i)
          unfold cPl cPl1
          rw [if_neg c_147, if_pos c_121]
      · skip
        refine k_aload d_S_foretellSquare_124 rfl ?_
        refine k_aload d_S_foretellSquare_126 rfl ?_
        refine k_getR d_S_foretellSquare_128 fS_157 rfl (al_P hqa) (kd_P qa) (pt_P0 g qa) ?_
        refine k_iload d_S_foretellSquare_131 rfl ?_
        refine k_aaload (ci := 2) d_S_foretellSquare_133 (by decide) (al_A hqa) (kd_A qa) (show vp_in _ (lnI g (idA qa)) by rw [ln_A]; exact vp_in_nI hi3 (by decide)) (by rw [nI_clamp (by omega)]; exact pt_A g qa hi3) ?_
        refine k_iload d_S_foretellSquare_134 rfl ?_
        refine k_iload d_S_foretellSquare_136 rfl ?_
        refine k_aload_n d_S_foretellSquare_138 rfl rfl ?_
        refine k_getR d_S_foretellSquare_139 fS_22 rfl (al_0 (by decide)) rfl rfl ?_
        refine k_iconst (v := nI 0) d_S_foretellSquare_142 (by decide) ?_
        refine k_callv (As := [_, _, _, _, _]) d_S_foretellSquare_143 lS_161 mv_L_foretell rfl rfl (al_L hqN hi3) (kd_L (gN g) hi3) rfl rfl (Nat.le_of_ble_eq_true rfl) (by decide) (l_foretell (q := gN g) (q2 := qa) (p := i) (A := A) (B := B) (cl := s % A) (rw := s / A) (vi := 11) hqN hqa hNa hi3 hA (hP _ (fun j => rfl)) (hla i hi3) (hCI _ i hqa hi3).1 (al_0 (by decide)) rfl rfl hsA hsB) ?_
        refine k_iload_n d_S_foretellSquare_146 rfl rfl ?_
        refine k_if_eq (tgt := 178) d_S_foretellSquare_147 (by decide) (fun c_147 => ?_) (fun c_147 => ?_)
        · skip
          first | refine k_iinc1 d_S_foretellSquare_178 rfl ?_ | refine k_iinc d_S_foretellSquare_178 rfl ?_
          refine k_goto (tgt := 98) d_S_foretellSquare_181 (by decide) ?_
          skip
          refine k_st (κ2 := cTel (gN g) qa (gT g) A B s ah bk κ (i + 1)) ?_ (ih (i + 1) _ (by omega))
          show _ = cPl (gN g) qa (gT g) A B s ah bk i (cTel (gN g) qa (gT g) A B s ah bk κ i)
          unfold cPl cPl1
          rw [if_pos c_147, if_neg c_121]
        · skip
          refine k_aload d_S_foretellSquare_150 rfl ?_
          refine k_aload_n d_S_foretellSquare_152 rfl rfl ?_
          refine k_getR d_S_foretellSquare_153 fS_32 rfl (al_0 (by decide)) rfl rfl ?_
          refine k_getR d_S_foretellSquare_156 fS_151 rfl (al_0 (by decide)) rfl rfl ?_
          refine k_getR d_S_foretellSquare_159 fS_157 rfl (al_P hqT) (kd_P (gT g)) (pt_P0 g (gT g)) ?_
          refine k_iload d_S_foretellSquare_162 rfl ?_
          refine k_aaload (ci := 2) d_S_foretellSquare_164 (by decide) (al_A hqT) (kd_A (gT g)) (show vp_in _ (lnI g (idA (gT g))) by rw [ln_A]; exact vp_in_nI hi3 (by decide)) (by rw [nI_clamp (by omega)]; exact pt_A g (gT g) hi3) ?_
          refine k_iload d_S_foretellSquare_165 rfl ?_
          refine k_iload d_S_foretellSquare_167 rfl ?_
          refine k_aload_n d_S_foretellSquare_169 rfl rfl ?_
          refine k_getR d_S_foretellSquare_170 fS_25 rfl (al_0 (by decide)) rfl rfl ?_
          refine k_iload d_S_foretellSquare_173 rfl ?_
          refine k_callv (As := [_, _, _, _, _]) d_S_foretellSquare_175 lS_161 mv_L_foretell rfl rfl (al_L hqN hi3) (kd_L (gN g) hi3) rfl rfl (Nat.le_of_ble_eq_true rfl) (by decide) (l_foretell (q := gN g) (q2 := gT g) (p := i) (A := A) (B := B) (cl := s % A) (rw := s / A) (vi := 12) hqN hqT hNT hi3 hA (hP _ (fun j => by first | exact sa_k (id_LD _ _ _ _ hi3 hi3) | rfl)) (hlT i hi3) (hCI _ i hqT hi3).1 (al_0 (by decide)) rfl rfl hsA hsB) ?_
          first | refine k_iinc1 d_S_foretellSquare_178 rfl ?_ | refine k_iinc d_S_foretellSquare_178 rfl ?_
          refine k_goto (tgt := 98) d_S_foretellSquare_181 (by decide) ?_
          skip
          refine k_st (κ2 := cTel (gN g) qa (gT g) A B s ah bk κ (i + 1)) ?_ (ih (i + 1) _ (by omega))
          show _ = cPl (gN g) qa (gT g) A B s ah bk i (cTel (gN g) qa (gT g) A B s ah bk κ i)
          unfold cPl cPl1
          rw [if_neg c_147, if_neg c_121]

def fgK (w : Nat) (κ : Sg) : Sg := su (if w = 0 then fFl (fFl (fFl κ 10 (nI 128) 3) 11 (nI 0) 2) 12 (nI 0) 2 else fFl κ 10 (nI 128) 3) 6 9 (nI w)
def ahW (w : Nat) : Int32 := if w = 1 then nI 0 else nI 1
def bkW (w : Nat) : Int32 := if w % 2 = 1 then nI 1 else nI 0
def kFs (A B s w : Nat) (g : Gh) (κ : Sg) : Sg := cTel (gN g) (if κ 6 6 = nI 2 then gT g else gO g) (gT g) A B s (ahW w) (bkW w) (fgK w κ) 3
theorem fgK_k {w k j : Nat} {κ : Sg} (h : k ≠ 6) (h0 : k ≠ 10) (h1 : k ≠ 11) (h2 : k ≠ 12) : fgK w κ k j = κ k j := by
  unfold fgK
  rw [su_k h]
  split
  · exact ((sa_k h2).trans (sa_k h1)).trans (sa_k h0)
  · exact sa_k h0
theorem fgK_6 {w j : Nat} {κ : Sg} (h : j ≠ 9) : fgK w κ 6 j = κ 6 j := by
  unfold fgK
  rw [su_j h]
  split
  · exact ((sa_k (by decide)).trans (sa_k (by decide))).trans (sa_k (by decide))
  · exact sa_k (by decide)

theorem s_foretellSquare {s0 : State} {l : Launch} {c : Cx} {g : Gh} {κ : Sg} {A B s w : Nat} (hA : okAB A B) (hG : okG g) (hCI : CI g κ) (hQ : okQ g κ (gN g) A B) (ha : κ 3 2 = nI A) (hs : s < A * B) (hw : w < 4) (hlO : ¬ κ 6 6 = nI 2 → ∀ p, p < 3 → wdN A p * wdN B p ≤ gL g (idD (gO g) p)) (hlT : ∀ p, p < 3 → wdN A p * wdN B p ≤ gL g (idD (gT g) p)) : KC s0 l M_S_foretellSquare c [.ref (gA g 6), .int (nI s), .int (nI w)] g κ (fun o g' κ' => o = .inl none ∧ g' = g ∧ κ' = kFs A B s w g κ) := by
  refine k_in (by decide) rfl rfl (Nat.le_of_ble_eq_true rfl) (fun hB => ?_)
  have hqN : gN g < 3 + gC g := by have := hG.1; omega
  have hqT : gT g < 3 + gC g := by have := hG.1; omega
  have hqO : gO g < 3 + gC g := by have := hG.1; omega
  have hNT : gN g ≠ gT g := hG.1.2.2.2.1
  have hNO : gN g ≠ gO g := hG.1.2.2.2.2.1
  have hAB : A * B ≤ 16 := Nat.mul_le_mul hA.1.2 hA.2.2
  have hA1 := hA.1
  have hA2 := hA.2
  rcases (show w = 0 ∨ w = 1 ∨ w = 2 ∨ w = 3 by omega) with rfl | rfl | rfl | rfl
  · skip
    refine k_aload_n d_S_foretellSquare_0 rfl rfl ?_
    refine k_callv (As := []) d_S_foretellSquare_1 lS_127 mv_S_forgetDcs rfl rfl (al_0 (by decide)) rfl rfl rfl (Nat.le_of_ble_eq_true rfl) (by decide) (s_forgetDcs) ?_
    refine k_iload_n d_S_foretellSquare_4 rfl rfl ?_
    refine k_if_ne (tgt := 12) d_S_foretellSquare_5 (by decide) (fun c_5 => ?_) (fun c_5 => ?_)
    · exact absurd c_5 (by decide)
    · skip
      refine k_aload_n d_S_foretellSquare_8 rfl rfl ?_
      refine k_callv (As := []) d_S_foretellSquare_9 lS_130 mv_S_forgetVectors rfl rfl (al_0 (by decide)) rfl rfl rfl (Nat.le_of_ble_eq_true rfl) (by decide) (s_forgetVectors) ?_
      refine k_aload_n d_S_foretellSquare_12 rfl rfl ?_
      refine k_iload_n d_S_foretellSquare_13 rfl rfl ?_
      refine k_put d_S_foretellSquare_14 fS_109 rfl (al_0 (by decide)) rfl rfl rfl rfl ?_
      have ha2 : fgK 0 κ 3 2 = nI A := (fgK_k (by decide) (by decide) (by decide) (by decide)).trans ha
      have h66 : fgK 0 κ 6 6 = κ 6 6 := fgK_6 (by decide)
      have hQ2 : okQ g (fgK 0 κ) (gN g) A B := fun p hp => (hQ p hp).ck (S := [6, 10, 11, 12]) (fun k hk j => fgK_k (fun z => hk (by rw [z]; decide)) (fun z => hk (by rw [z]; decide)) (fun z => hk (by rw [z]; decide)) (fun z => hk (by rw [z]; decide))) (by simp; unfold idL; omega)
      have hCI2 : CI g (fgK 0 κ) := fun q p hq hp => ⟨(hCI q p hq hp).1, (fgK_k (by unfold idL; omega) (by unfold idL; omega) (by unfold idL; omega) (by unfold idL; omega)).trans (hCI q p hq hp).2⟩
      refine k_st (show _ = fgK 0 κ from rfl) ?_
      refine k_iload_n d_S_foretellSquare_17 rfl rfl ?_
      refine k_iconst (v := nI 1) d_S_foretellSquare_18 (by decide) ?_
      refine k_iand d_S_foretellSquare_19 ?_
      refine k_if_eq (tgt := 27) d_S_foretellSquare_20 (by decide) (fun c_20 => ?_) (fun c_20 => ?_)
      · skip
        refine k_iconst (v := nI 0) d_S_foretellSquare_27 (by decide) ?_
        refine k_istore_n d_S_foretellSquare_28 rfl (Nat.le_of_ble_eq_true rfl) ?_
        refine k_iload_n d_S_foretellSquare_29 rfl rfl ?_
        refine k_if_eq (tgt := 39) d_S_foretellSquare_30 (by decide) (fun c_30 => ?_) (fun c_30 => ?_)
        · skip
          refine k_iconst (v := nI 1) d_S_foretellSquare_39 (by decide) ?_
          refine k_goto (tgt := 44) d_S_foretellSquare_40 (by decide) ?_
          refine k_istore d_S_foretellSquare_44 (Nat.le_of_ble_eq_true rfl) ?_
          refine k_iload_n d_S_foretellSquare_46 rfl rfl ?_
          refine k_aload_n d_S_foretellSquare_47 rfl rfl ?_
          refine k_getR d_S_foretellSquare_48 fS_32 rfl (al_0 (by decide)) rfl rfl ?_
          refine k_getE d_S_foretellSquare_51 fS_68 rfl (al_0 (by decide)) rfl ha2 ?_
          refine k_iremN d_S_foretellSquare_54 ⟨by omega, by omega, by omega⟩ ?_
          refine k_istore d_S_foretellSquare_55 (Nat.le_of_ble_eq_true rfl) ?_
          refine k_iload_n d_S_foretellSquare_57 rfl rfl ?_
          refine k_aload_n d_S_foretellSquare_58 rfl rfl ?_
          refine k_getR d_S_foretellSquare_59 fS_32 rfl (al_0 (by decide)) rfl rfl ?_
          refine k_getE d_S_foretellSquare_62 fS_68 rfl (al_0 (by decide)) rfl ha2 ?_
          refine k_idivN d_S_foretellSquare_65 ⟨by omega, by omega, by omega⟩ ?_
          refine k_istore d_S_foretellSquare_66 (Nat.le_of_ble_eq_true rfl) ?_
          refine k_aload_n d_S_foretellSquare_68 rfl rfl ?_
          refine k_get d_S_foretellSquare_69 fS_61 rfl (al_0 (by decide)) rfl ?_
          refine k_iconst (v := nI 2) d_S_foretellSquare_72 (by decide) ?_
          refine k_icmp_ne (tgt := 86) d_S_foretellSquare_73 (by decide) (fun c_73 => ?_) (fun c_73 => ?_)
          · skip
            refine k_aload_n d_S_foretellSquare_86 rfl rfl ?_
            refine k_getR d_S_foretellSquare_87 fS_32 rfl (al_0 (by decide)) rfl rfl ?_
            refine k_getR d_S_foretellSquare_90 fS_154 rfl (al_0 (by decide)) rfl rfl ?_
            refine k_astore d_S_foretellSquare_93 (Nat.le_of_ble_eq_true rfl) ?_
            refine k_iconst (v := nI 0) d_S_foretellSquare_95 (by decide) ?_
            refine k_istore d_S_foretellSquare_96 (Nat.le_of_ble_eq_true rfl) ?_
            refine k_st (show _ = cTel (gN g) (gO g) (gT g) A B s (ahW 0) (bkW 0) (fgK 0 κ) 0 from rfl) ?_
            refine KQ.mono (s_fs_l hA hG hCI2 hQ2 hs hqO hNO (hlO (fun z => c_73 (h66.trans z))) hlT 3 0 _ (by decide)) (fun o g' κ' z => ⟨z.1, z.2.1, z.2.2.trans ?_⟩)
            unfold kFs
            rw [if_neg (fun z => c_73 (h66.trans z))]
            rfl
          · skip
            refine k_aload_n d_S_foretellSquare_76 rfl rfl ?_
            refine k_getR d_S_foretellSquare_77 fS_32 rfl (al_0 (by decide)) rfl rfl ?_
            refine k_getR d_S_foretellSquare_80 fS_151 rfl (al_0 (by decide)) rfl rfl ?_
            refine k_goto (tgt := 93) d_S_foretellSquare_83 (by decide) ?_
            refine k_astore d_S_foretellSquare_93 (Nat.le_of_ble_eq_true rfl) ?_
            refine k_iconst (v := nI 0) d_S_foretellSquare_95 (by decide) ?_
            refine k_istore d_S_foretellSquare_96 (Nat.le_of_ble_eq_true rfl) ?_
            refine k_st (show _ = cTel (gN g) (gT g) (gT g) A B s (ahW 0) (bkW 0) (fgK 0 κ) 0 from rfl) ?_
            refine KQ.mono (s_fs_l hA hG hCI2 hQ2 hs hqT hNT hlT hlT 3 0 _ (by decide)) (fun o g' κ' z => ⟨z.1, z.2.1, z.2.2.trans ?_⟩)
            unfold kFs
            rw [if_pos ((h66.symm.trans c_73))]
            rfl
        · exact absurd c_30 (by decide)
      · exact absurd c_20 (by decide)
  · skip
    refine k_aload_n d_S_foretellSquare_0 rfl rfl ?_
    refine k_callv (As := []) d_S_foretellSquare_1 lS_127 mv_S_forgetDcs rfl rfl (al_0 (by decide)) rfl rfl rfl (Nat.le_of_ble_eq_true rfl) (by decide) (s_forgetDcs) ?_
    refine k_iload_n d_S_foretellSquare_4 rfl rfl ?_
    refine k_if_ne (tgt := 12) d_S_foretellSquare_5 (by decide) (fun c_5 => ?_) (fun c_5 => ?_)
    · skip
      refine k_aload_n d_S_foretellSquare_12 rfl rfl ?_
      refine k_iload_n d_S_foretellSquare_13 rfl rfl ?_
      refine k_put d_S_foretellSquare_14 fS_109 rfl (al_0 (by decide)) rfl rfl rfl rfl ?_
      have ha2 : fgK 1 κ 3 2 = nI A := (fgK_k (by decide) (by decide) (by decide) (by decide)).trans ha
      have h66 : fgK 1 κ 6 6 = κ 6 6 := fgK_6 (by decide)
      have hQ2 : okQ g (fgK 1 κ) (gN g) A B := fun p hp => (hQ p hp).ck (S := [6, 10, 11, 12]) (fun k hk j => fgK_k (fun z => hk (by rw [z]; decide)) (fun z => hk (by rw [z]; decide)) (fun z => hk (by rw [z]; decide)) (fun z => hk (by rw [z]; decide))) (by simp; unfold idL; omega)
      have hCI2 : CI g (fgK 1 κ) := fun q p hq hp => ⟨(hCI q p hq hp).1, (fgK_k (by unfold idL; omega) (by unfold idL; omega) (by unfold idL; omega) (by unfold idL; omega)).trans (hCI q p hq hp).2⟩
      refine k_st (show _ = fgK 1 κ from rfl) ?_
      refine k_iload_n d_S_foretellSquare_17 rfl rfl ?_
      refine k_iconst (v := nI 1) d_S_foretellSquare_18 (by decide) ?_
      refine k_iand d_S_foretellSquare_19 ?_
      refine k_if_eq (tgt := 27) d_S_foretellSquare_20 (by decide) (fun c_20 => ?_) (fun c_20 => ?_)
      · exact absurd c_20 (by decide)
      · skip
        refine k_iconst (v := nI 1) d_S_foretellSquare_23 (by decide) ?_
        refine k_goto (tgt := 28) d_S_foretellSquare_24 (by decide) ?_
        refine k_istore_n d_S_foretellSquare_28 rfl (Nat.le_of_ble_eq_true rfl) ?_
        refine k_iload_n d_S_foretellSquare_29 rfl rfl ?_
        refine k_if_eq (tgt := 39) d_S_foretellSquare_30 (by decide) (fun c_30 => ?_) (fun c_30 => ?_)
        · exact absurd c_30 (by decide)
        · skip
          refine k_iload_n d_S_foretellSquare_33 rfl rfl ?_
          refine k_iconst (v := nI 2) d_S_foretellSquare_34 (by decide) ?_
          refine k_iand d_S_foretellSquare_35 ?_
          refine k_if_eq (tgt := 43) d_S_foretellSquare_36 (by decide) (fun c_36 => ?_) (fun c_36 => ?_)
          · skip
            refine k_iconst (v := nI 0) d_S_foretellSquare_43 (by decide) ?_
            refine k_istore d_S_foretellSquare_44 (Nat.le_of_ble_eq_true rfl) ?_
            refine k_iload_n d_S_foretellSquare_46 rfl rfl ?_
            refine k_aload_n d_S_foretellSquare_47 rfl rfl ?_
            refine k_getR d_S_foretellSquare_48 fS_32 rfl (al_0 (by decide)) rfl rfl ?_
            refine k_getE d_S_foretellSquare_51 fS_68 rfl (al_0 (by decide)) rfl ha2 ?_
            refine k_iremN d_S_foretellSquare_54 ⟨by omega, by omega, by omega⟩ ?_
            refine k_istore d_S_foretellSquare_55 (Nat.le_of_ble_eq_true rfl) ?_
            refine k_iload_n d_S_foretellSquare_57 rfl rfl ?_
            refine k_aload_n d_S_foretellSquare_58 rfl rfl ?_
            refine k_getR d_S_foretellSquare_59 fS_32 rfl (al_0 (by decide)) rfl rfl ?_
            refine k_getE d_S_foretellSquare_62 fS_68 rfl (al_0 (by decide)) rfl ha2 ?_
            refine k_idivN d_S_foretellSquare_65 ⟨by omega, by omega, by omega⟩ ?_
            refine k_istore d_S_foretellSquare_66 (Nat.le_of_ble_eq_true rfl) ?_
            refine k_aload_n d_S_foretellSquare_68 rfl rfl ?_
            refine k_get d_S_foretellSquare_69 fS_61 rfl (al_0 (by decide)) rfl ?_
            refine k_iconst (v := nI 2) d_S_foretellSquare_72 (by decide) ?_
            refine k_icmp_ne (tgt := 86) d_S_foretellSquare_73 (by decide) (fun c_73 => ?_) (fun c_73 => ?_)
            · skip
              refine k_aload_n d_S_foretellSquare_86 rfl rfl ?_
              refine k_getR d_S_foretellSquare_87 fS_32 rfl (al_0 (by decide)) rfl rfl ?_
              refine k_getR d_S_foretellSquare_90 fS_154 rfl (al_0 (by decide)) rfl rfl ?_
              refine k_astore d_S_foretellSquare_93 (Nat.le_of_ble_eq_true rfl) ?_
              refine k_iconst (v := nI 0) d_S_foretellSquare_95 (by decide) ?_
              refine k_istore d_S_foretellSquare_96 (Nat.le_of_ble_eq_true rfl) ?_
              refine k_st (show _ = cTel (gN g) (gO g) (gT g) A B s (ahW 1) (bkW 1) (fgK 1 κ) 0 from rfl) ?_
              refine KQ.mono (s_fs_l hA hG hCI2 hQ2 hs hqO hNO (hlO (fun z => c_73 (h66.trans z))) hlT 3 0 _ (by decide)) (fun o g' κ' z => ⟨z.1, z.2.1, z.2.2.trans ?_⟩)
              unfold kFs
              rw [if_neg (fun z => c_73 (h66.trans z))]
              rfl
            · skip
              refine k_aload_n d_S_foretellSquare_76 rfl rfl ?_
              refine k_getR d_S_foretellSquare_77 fS_32 rfl (al_0 (by decide)) rfl rfl ?_
              refine k_getR d_S_foretellSquare_80 fS_151 rfl (al_0 (by decide)) rfl rfl ?_
              refine k_goto (tgt := 93) d_S_foretellSquare_83 (by decide) ?_
              refine k_astore d_S_foretellSquare_93 (Nat.le_of_ble_eq_true rfl) ?_
              refine k_iconst (v := nI 0) d_S_foretellSquare_95 (by decide) ?_
              refine k_istore d_S_foretellSquare_96 (Nat.le_of_ble_eq_true rfl) ?_
              refine k_st (show _ = cTel (gN g) (gT g) (gT g) A B s (ahW 1) (bkW 1) (fgK 1 κ) 0 from rfl) ?_
              refine KQ.mono (s_fs_l hA hG hCI2 hQ2 hs hqT hNT hlT hlT 3 0 _ (by decide)) (fun o g' κ' z => ⟨z.1, z.2.1, z.2.2.trans ?_⟩)
              unfold kFs
              rw [if_pos ((h66.symm.trans c_73))]
              rfl
          · exact absurd c_36 (by decide)
    · exact absurd c_5 (by decide)
  · skip
    refine k_aload_n d_S_foretellSquare_0 rfl rfl ?_
    refine k_callv (As := []) d_S_foretellSquare_1 lS_127 mv_S_forgetDcs rfl rfl (al_0 (by decide)) rfl rfl rfl (Nat.le_of_ble_eq_true rfl) (by decide) (s_forgetDcs) ?_
    refine k_iload_n d_S_foretellSquare_4 rfl rfl ?_
    refine k_if_ne (tgt := 12) d_S_foretellSquare_5 (by decide) (fun c_5 => ?_) (fun c_5 => ?_)
    · skip
      refine k_aload_n d_S_foretellSquare_12 rfl rfl ?_
      refine k_iload_n d_S_foretellSquare_13 rfl rfl ?_
      refine k_put d_S_foretellSquare_14 fS_109 rfl (al_0 (by decide)) rfl rfl rfl rfl ?_
      have ha2 : fgK 2 κ 3 2 = nI A := (fgK_k (by decide) (by decide) (by decide) (by decide)).trans ha
      have h66 : fgK 2 κ 6 6 = κ 6 6 := fgK_6 (by decide)
      have hQ2 : okQ g (fgK 2 κ) (gN g) A B := fun p hp => (hQ p hp).ck (S := [6, 10, 11, 12]) (fun k hk j => fgK_k (fun z => hk (by rw [z]; decide)) (fun z => hk (by rw [z]; decide)) (fun z => hk (by rw [z]; decide)) (fun z => hk (by rw [z]; decide))) (by simp; unfold idL; omega)
      have hCI2 : CI g (fgK 2 κ) := fun q p hq hp => ⟨(hCI q p hq hp).1, (fgK_k (by unfold idL; omega) (by unfold idL; omega) (by unfold idL; omega) (by unfold idL; omega)).trans (hCI q p hq hp).2⟩
      refine k_st (show _ = fgK 2 κ from rfl) ?_
      refine k_iload_n d_S_foretellSquare_17 rfl rfl ?_
      refine k_iconst (v := nI 1) d_S_foretellSquare_18 (by decide) ?_
      refine k_iand d_S_foretellSquare_19 ?_
      refine k_if_eq (tgt := 27) d_S_foretellSquare_20 (by decide) (fun c_20 => ?_) (fun c_20 => ?_)
      · skip
        refine k_iconst (v := nI 0) d_S_foretellSquare_27 (by decide) ?_
        refine k_istore_n d_S_foretellSquare_28 rfl (Nat.le_of_ble_eq_true rfl) ?_
        refine k_iload_n d_S_foretellSquare_29 rfl rfl ?_
        refine k_if_eq (tgt := 39) d_S_foretellSquare_30 (by decide) (fun c_30 => ?_) (fun c_30 => ?_)
        · exact absurd c_30 (by decide)
        · skip
          refine k_iload_n d_S_foretellSquare_33 rfl rfl ?_
          refine k_iconst (v := nI 2) d_S_foretellSquare_34 (by decide) ?_
          refine k_iand d_S_foretellSquare_35 ?_
          refine k_if_eq (tgt := 43) d_S_foretellSquare_36 (by decide) (fun c_36 => ?_) (fun c_36 => ?_)
          · exact absurd c_36 (by decide)
          · skip
            refine k_iconst (v := nI 1) d_S_foretellSquare_39 (by decide) ?_
            refine k_goto (tgt := 44) d_S_foretellSquare_40 (by decide) ?_
            refine k_istore d_S_foretellSquare_44 (Nat.le_of_ble_eq_true rfl) ?_
            refine k_iload_n d_S_foretellSquare_46 rfl rfl ?_
            refine k_aload_n d_S_foretellSquare_47 rfl rfl ?_
            refine k_getR d_S_foretellSquare_48 fS_32 rfl (al_0 (by decide)) rfl rfl ?_
            refine k_getE d_S_foretellSquare_51 fS_68 rfl (al_0 (by decide)) rfl ha2 ?_
            refine k_iremN d_S_foretellSquare_54 ⟨by omega, by omega, by omega⟩ ?_
            refine k_istore d_S_foretellSquare_55 (Nat.le_of_ble_eq_true rfl) ?_
            refine k_iload_n d_S_foretellSquare_57 rfl rfl ?_
            refine k_aload_n d_S_foretellSquare_58 rfl rfl ?_
            refine k_getR d_S_foretellSquare_59 fS_32 rfl (al_0 (by decide)) rfl rfl ?_
            refine k_getE d_S_foretellSquare_62 fS_68 rfl (al_0 (by decide)) rfl ha2 ?_
            refine k_idivN d_S_foretellSquare_65 ⟨by omega, by omega, by omega⟩ ?_
            refine k_istore d_S_foretellSquare_66 (Nat.le_of_ble_eq_true rfl) ?_
            refine k_aload_n d_S_foretellSquare_68 rfl rfl ?_
            refine k_get d_S_foretellSquare_69 fS_61 rfl (al_0 (by decide)) rfl ?_
            refine k_iconst (v := nI 2) d_S_foretellSquare_72 (by decide) ?_
            refine k_icmp_ne (tgt := 86) d_S_foretellSquare_73 (by decide) (fun c_73 => ?_) (fun c_73 => ?_)
            · skip
              refine k_aload_n d_S_foretellSquare_86 rfl rfl ?_
              refine k_getR d_S_foretellSquare_87 fS_32 rfl (al_0 (by decide)) rfl rfl ?_
              refine k_getR d_S_foretellSquare_90 fS_154 rfl (al_0 (by decide)) rfl rfl ?_
              refine k_astore d_S_foretellSquare_93 (Nat.le_of_ble_eq_true rfl) ?_
              refine k_iconst (v := nI 0) d_S_foretellSquare_95 (by decide) ?_
              refine k_istore d_S_foretellSquare_96 (Nat.le_of_ble_eq_true rfl) ?_
              refine k_st (show _ = cTel (gN g) (gO g) (gT g) A B s (ahW 2) (bkW 2) (fgK 2 κ) 0 from rfl) ?_
              refine KQ.mono (s_fs_l hA hG hCI2 hQ2 hs hqO hNO (hlO (fun z => c_73 (h66.trans z))) hlT 3 0 _ (by decide)) (fun o g' κ' z => ⟨z.1, z.2.1, z.2.2.trans ?_⟩)
              unfold kFs
              rw [if_neg (fun z => c_73 (h66.trans z))]
              rfl
            · skip
              refine k_aload_n d_S_foretellSquare_76 rfl rfl ?_
              refine k_getR d_S_foretellSquare_77 fS_32 rfl (al_0 (by decide)) rfl rfl ?_
              refine k_getR d_S_foretellSquare_80 fS_151 rfl (al_0 (by decide)) rfl rfl ?_
              refine k_goto (tgt := 93) d_S_foretellSquare_83 (by decide) ?_
              refine k_astore d_S_foretellSquare_93 (Nat.le_of_ble_eq_true rfl) ?_
              refine k_iconst (v := nI 0) d_S_foretellSquare_95 (by decide) ?_
              refine k_istore d_S_foretellSquare_96 (Nat.le_of_ble_eq_true rfl) ?_
              refine k_st (show _ = cTel (gN g) (gT g) (gT g) A B s (ahW 2) (bkW 2) (fgK 2 κ) 0 from rfl) ?_
              refine KQ.mono (s_fs_l hA hG hCI2 hQ2 hs hqT hNT hlT hlT 3 0 _ (by decide)) (fun o g' κ' z => ⟨z.1, z.2.1, z.2.2.trans ?_⟩)
              unfold kFs
              rw [if_pos ((h66.symm.trans c_73))]
              rfl
      · exact absurd c_20 (by decide)
    · exact absurd c_5 (by decide)
  · skip
    refine k_aload_n d_S_foretellSquare_0 rfl rfl ?_
    refine k_callv (As := []) d_S_foretellSquare_1 lS_127 mv_S_forgetDcs rfl rfl (al_0 (by decide)) rfl rfl rfl (Nat.le_of_ble_eq_true rfl) (by decide) (s_forgetDcs) ?_
    refine k_iload_n d_S_foretellSquare_4 rfl rfl ?_
    refine k_if_ne (tgt := 12) d_S_foretellSquare_5 (by decide) (fun c_5 => ?_) (fun c_5 => ?_)
    · skip
      refine k_aload_n d_S_foretellSquare_12 rfl rfl ?_
      refine k_iload_n d_S_foretellSquare_13 rfl rfl ?_
      refine k_put d_S_foretellSquare_14 fS_109 rfl (al_0 (by decide)) rfl rfl rfl rfl ?_
      have ha2 : fgK 3 κ 3 2 = nI A := (fgK_k (by decide) (by decide) (by decide) (by decide)).trans ha
      have h66 : fgK 3 κ 6 6 = κ 6 6 := fgK_6 (by decide)
      have hQ2 : okQ g (fgK 3 κ) (gN g) A B := fun p hp => (hQ p hp).ck (S := [6, 10, 11, 12]) (fun k hk j => fgK_k (fun z => hk (by rw [z]; decide)) (fun z => hk (by rw [z]; decide)) (fun z => hk (by rw [z]; decide)) (fun z => hk (by rw [z]; decide))) (by simp; unfold idL; omega)
      have hCI2 : CI g (fgK 3 κ) := fun q p hq hp => ⟨(hCI q p hq hp).1, (fgK_k (by unfold idL; omega) (by unfold idL; omega) (by unfold idL; omega) (by unfold idL; omega)).trans (hCI q p hq hp).2⟩
      refine k_st (show _ = fgK 3 κ from rfl) ?_
      refine k_iload_n d_S_foretellSquare_17 rfl rfl ?_
      refine k_iconst (v := nI 1) d_S_foretellSquare_18 (by decide) ?_
      refine k_iand d_S_foretellSquare_19 ?_
      refine k_if_eq (tgt := 27) d_S_foretellSquare_20 (by decide) (fun c_20 => ?_) (fun c_20 => ?_)
      · exact absurd c_20 (by decide)
      · skip
        refine k_iconst (v := nI 1) d_S_foretellSquare_23 (by decide) ?_
        refine k_goto (tgt := 28) d_S_foretellSquare_24 (by decide) ?_
        refine k_istore_n d_S_foretellSquare_28 rfl (Nat.le_of_ble_eq_true rfl) ?_
        refine k_iload_n d_S_foretellSquare_29 rfl rfl ?_
        refine k_if_eq (tgt := 39) d_S_foretellSquare_30 (by decide) (fun c_30 => ?_) (fun c_30 => ?_)
        · exact absurd c_30 (by decide)
        · skip
          refine k_iload_n d_S_foretellSquare_33 rfl rfl ?_
          refine k_iconst (v := nI 2) d_S_foretellSquare_34 (by decide) ?_
          refine k_iand d_S_foretellSquare_35 ?_
          refine k_if_eq (tgt := 43) d_S_foretellSquare_36 (by decide) (fun c_36 => ?_) (fun c_36 => ?_)
          · exact absurd c_36 (by decide)
          · skip
            refine k_iconst (v := nI 1) d_S_foretellSquare_39 (by decide) ?_
            refine k_goto (tgt := 44) d_S_foretellSquare_40 (by decide) ?_
            refine k_istore d_S_foretellSquare_44 (Nat.le_of_ble_eq_true rfl) ?_
            refine k_iload_n d_S_foretellSquare_46 rfl rfl ?_
            refine k_aload_n d_S_foretellSquare_47 rfl rfl ?_
            refine k_getR d_S_foretellSquare_48 fS_32 rfl (al_0 (by decide)) rfl rfl ?_
            refine k_getE d_S_foretellSquare_51 fS_68 rfl (al_0 (by decide)) rfl ha2 ?_
            refine k_iremN d_S_foretellSquare_54 ⟨by omega, by omega, by omega⟩ ?_
            refine k_istore d_S_foretellSquare_55 (Nat.le_of_ble_eq_true rfl) ?_
            refine k_iload_n d_S_foretellSquare_57 rfl rfl ?_
            refine k_aload_n d_S_foretellSquare_58 rfl rfl ?_
            refine k_getR d_S_foretellSquare_59 fS_32 rfl (al_0 (by decide)) rfl rfl ?_
            refine k_getE d_S_foretellSquare_62 fS_68 rfl (al_0 (by decide)) rfl ha2 ?_
            refine k_idivN d_S_foretellSquare_65 ⟨by omega, by omega, by omega⟩ ?_
            refine k_istore d_S_foretellSquare_66 (Nat.le_of_ble_eq_true rfl) ?_
            refine k_aload_n d_S_foretellSquare_68 rfl rfl ?_
            refine k_get d_S_foretellSquare_69 fS_61 rfl (al_0 (by decide)) rfl ?_
            refine k_iconst (v := nI 2) d_S_foretellSquare_72 (by decide) ?_
            refine k_icmp_ne (tgt := 86) d_S_foretellSquare_73 (by decide) (fun c_73 => ?_) (fun c_73 => ?_)
            · skip
              refine k_aload_n d_S_foretellSquare_86 rfl rfl ?_
              refine k_getR d_S_foretellSquare_87 fS_32 rfl (al_0 (by decide)) rfl rfl ?_
              refine k_getR d_S_foretellSquare_90 fS_154 rfl (al_0 (by decide)) rfl rfl ?_
              refine k_astore d_S_foretellSquare_93 (Nat.le_of_ble_eq_true rfl) ?_
              refine k_iconst (v := nI 0) d_S_foretellSquare_95 (by decide) ?_
              refine k_istore d_S_foretellSquare_96 (Nat.le_of_ble_eq_true rfl) ?_
              refine k_st (show _ = cTel (gN g) (gO g) (gT g) A B s (ahW 3) (bkW 3) (fgK 3 κ) 0 from rfl) ?_
              refine KQ.mono (s_fs_l hA hG hCI2 hQ2 hs hqO hNO (hlO (fun z => c_73 (h66.trans z))) hlT 3 0 _ (by decide)) (fun o g' κ' z => ⟨z.1, z.2.1, z.2.2.trans ?_⟩)
              unfold kFs
              rw [if_neg (fun z => c_73 (h66.trans z))]
              rfl
            · skip
              refine k_aload_n d_S_foretellSquare_76 rfl rfl ?_
              refine k_getR d_S_foretellSquare_77 fS_32 rfl (al_0 (by decide)) rfl rfl ?_
              refine k_getR d_S_foretellSquare_80 fS_151 rfl (al_0 (by decide)) rfl rfl ?_
              refine k_goto (tgt := 93) d_S_foretellSquare_83 (by decide) ?_
              refine k_astore d_S_foretellSquare_93 (Nat.le_of_ble_eq_true rfl) ?_
              refine k_iconst (v := nI 0) d_S_foretellSquare_95 (by decide) ?_
              refine k_istore d_S_foretellSquare_96 (Nat.le_of_ble_eq_true rfl) ?_
              refine k_st (show _ = cTel (gN g) (gT g) (gT g) A B s (ahW 3) (bkW 3) (fgK 3 κ) 0 from rfl) ?_
              refine KQ.mono (s_fs_l hA hG hCI2 hQ2 hs hqT hNT hlT hlT 3 0 _ (by decide)) (fun o g' κ' z => ⟨z.1, z.2.1, z.2.2.trans ?_⟩)
              unfold kFs
              rw [if_pos ((h66.symm.trans c_73))]
              rfl
    · exact absurd c_5 (by decide)

