/-! ===== the head of a picture ===== -/

theorem s_rh_b {s0 : State} {l : Launch} {c : Cx} {hB : Mem} {g : Gh} {κ σ : Sg} {b L : Nat} {y2 : Option Value} (hT : TRel κ σ) (hA : TA κ σ) (hL1 : L ≤ 2) (hL2 : κ 3 7 = nI L) (h12 : σ 12 0 = 0 ↔ L < 1) (h13 : σ 13 0 = 0 ↔ L < 2) (w : (fNA 2 σ).2 6 0 = -1) (e2 : (fNA 2 σ).1 = nI b) (hb : 1 ≤ b ∧ b < 4) : KQ s0 l M_S_readHead c hB 20 [some (.ref (gA g 6)), some (.int (κ 1 2)), y2] [] g (su (su κ 1 2 ((fNA 2 σ).2 4 0)) 6 6 (nI b)) (EQ [1, 6] g κ (hdR σ) (HR (hdR σ).2)) := by
  rcases (show b = 1 ∨ b = 2 ∨ b = 3 by omega) with rfl | rfl | rfl
  · skip
    refine k_aload_n d_S_readHead_20 rfl rfl ?_
    refine k_getE d_S_readHead_21 fS_61 rfl (al_0 (by decide)) rfl (show su _ 6 6 (nI 1) 6 6 = nI 1 from su_at _ _ _ _) ?_
    refine k_iconst (v := nI 1) d_S_readHead_24 (by decide) ?_
    refine k_icmp_ne (tgt := 32) d_S_readHead_25 (by decide) (fun c_25 => ?_) (fun c_25 => ?_)
    · exact absurd rfl c_25
    · skip
      refine k_iconst (v := nI 0) d_S_readHead_28 (by decide) ?_
      refine k_goto (tgt := 45) d_S_readHead_29 (by decide) ?_
      refine k_istore_n d_S_readHead_45 rfl (Nat.le_of_ble_eq_true rfl) ?_
      refine k_iload_n d_S_readHead_46 rfl rfl ?_
      refine k_aload_n d_S_readHead_47 rfl rfl ?_
      refine k_getR d_S_readHead_48 fS_32 rfl (al_0 (by decide)) rfl rfl ?_
      refine k_getE d_S_readHead_51 fS_91 rfl (al_0 (by decide)) rfl (show su (su κ 1 2 _) 6 6 _ 3 7 = nI L from hL2) ?_
      refine k_icmp_le (tgt := 65) d_S_readHead_54 (by decide) (fun c_54 => ?_) (fun c_54 => ?_)
      · skip
        have hLb : 1 ≤ L + 1 := by
          have := (nI_leI (by omega) (by omega)).mp c_54
          omega
        have hnB : ¬ pcB (pcS σ) := fun z => by
          have := (pcB_iff hL1 h12 h13 e2 ⟨by decide, by decide⟩).mp z
          omega
        have hT1 := hd_T1 hT w e2
        refine k_aload_n d_S_readHead_65 rfl rfl ?_
        refine k_aload_n d_S_readHead_66 rfl rfl ?_
        refine k_getR d_S_readHead_67 fS_28 rfl (al_0 (by decide)) rfl rfl ?_
        refine k_iconst (v := nI 5) d_S_readHead_70 (by decide) ?_
        refine k_callT (As := [_]) d_S_readHead_71 lS_88 mv_T_nonZero rfl rfl (al_0 (by decide)) rfl rfl rfl (Nat.le_of_ble_eq_true rfl) (by decide) (t_nonZero (n := 5) hT1 (by decide) (by decide)) (fun w_71 => ?_) (fun w_71 x_71 => ?_)
        · skip
          have hT2 := hd_T2 (v := (fNA 5 (pcS σ)).1) hT1 w_71
          refine k_put d_S_readHead_74 fS_97 rfl (al_0 (by decide)) rfl rfl rfl rfl ?_
          refine k_aload_n d_S_readHead_77 rfl rfl ?_
          refine k_aload_n d_S_readHead_78 rfl rfl ?_
          refine k_getE d_S_readHead_79 fS_61 rfl (al_0 (by decide)) rfl (show su (su (su (su κ 1 2 ((fNA 2 σ).2 4 0)) 6 6 (nI 1)) 1 2 _) 6 7 _ 6 6 = nI 1 from rfl) ?_
          refine k_iconst (v := nI 1) d_S_readHead_82 (by decide) ?_
          refine k_icmp_ne (tgt := 90) d_S_readHead_83 (by decide) (fun c_83 => ?_) (fun c_83 => ?_)
          · exact absurd rfl c_83
          · skip
            refine k_iconst (v := nI 0) d_S_readHead_86 (by decide) ?_
            refine k_goto (tgt := 101) d_S_readHead_87 (by decide) ?_
            refine k_put d_S_readHead_101 fS_100 rfl (al_0 (by decide)) rfl rfl rfl rfl ?_
            refine k_vret d_S_readHead_104 rfl ?_
            have e9 := hd_3 w hnB
            have kk : kp [1, 6] κ (su (su (su (su (su κ 1 2 ((fNA 2 σ).2 4 0)) 6 6 (nI 1)) 1 2 ((fNA 5 (pcS σ)).2 4 0)) 6 7 (fNA 5 (pcS σ)).1) 6 8 (nI 0)) := (kasu (by decide) (kasu (by decide) (kasu (by decide) (kasu (by decide) (kp.su (by decide))))))
            have hF : HR (pcP (pcQ (pcS σ))) (su (su (su (su (su κ 1 2 ((fNA 2 σ).2 4 0)) 6 6 (nI 1)) 1 2 ((fNA 5 (pcS σ)).2 4 0)) 6 7 (fNA 5 (pcS σ)).1) 6 8 (nI 0)) := HR.fin (κ3 := (su (su (su (su κ 1 2 ((fNA 2 σ).2 4 0)) 6 6 (nI 1)) 1 2 ((fNA 5 (pcS σ)).2 4 0)) 6 7 (fNA 5 (pcS σ)).1)) hA kk e2 ⟨by decide, by decide⟩ hL1 h12 h13 hLb hT2 (by rw [su_j (by decide), su_j (by decide), su_k (by decide), su_at]) (by rw [su_j (by decide), su_at]) (Or.inl ⟨rfl, rfl⟩)
            rw [e9, if_neg (by rw [hF.1.2.2.2.1]; decide)]
            clear e9
            generalize pcP (pcQ (pcS σ)) = X at hF ⊢
            exact ⟨kk, Or.inl ⟨hF.1.2.2.2.1, (show ¬ nI 1 = 0 by decide), rfl, rfl, hF⟩⟩
        · skip
          have e9 := hd_3 w hnB
          have w9 : 0 ≤ pcP (pcQ (pcS σ)) 6 0 := by rw [hd_q w_71]; exact w_71
          rw [e9, if_pos w9]
          have hTA := TA_P hA
          have hT5 : κ 1 1 = pcP (pcQ (pcS σ)) 5 0 := by rw [kp_P _ 5 (by decide), kp_Q _ 5 (by decide), kp_S σ 5 (by decide)]; exact hT.2.2.1
          have hq6 := hd_q w_71
          clear e9
          generalize pcP (pcQ (pcS σ)) = X at w9 hTA hT5 hq6 ⊢
          generalize (fNA 5 (pcS σ)).2 = Y at *
          refine EQ.up (S := [1, 6]) (κ1 := (su (su κ 1 2 ((fNA 2 σ).2 4 0)) 6 6 (nI 1))) (EQ.thr (τ := Y) (σ := X) (by decide) w_71 rfl hq6 rfl ?_ (fun _ _ => rfl)) (kasu (by decide) (kp.su (by decide)))
          exact ⟨hTA.ck (S := [1, 6]) (kasu (by decide) (kp.su (by decide))) (by decide), by simp only [su_j (show 1 ≠ 2 by decide), su_k (show 1 ≠ 6 by decide)]; exact hT5⟩
      · skip
        refine k_aload_n d_S_readHead_57 rfl rfl ?_
        refine k_getR d_S_readHead_58 fS_28 rfl (al_0 (by decide)) rfl rfl ?_
        refine k_iload_n d_S_readHead_61 rfl rfl ?_
        refine k_call (As := [_]) d_S_readHead_62 lS_94 mv_T_failAt rfl rfl (al_0 (by decide)) rfl rfl rfl (Nat.le_of_ble_eq_true rfl) (by decide) (t_failAt) (fun v_62 g_62 κ_62 q_62 => absurd q_62.1 (fun h9 => nomatch h9)) (fun E_62 g_62 κ_62 q_62 => ?_)
        obtain ⟨rE_62, rfl, rfl⟩ := q_62
        obtain rfl := Sum.inr.inj rE_62
        have hB9 : pcB (pcS σ) := (pcB_iff hL1 h12 h13 e2 ⟨by decide, by decide⟩).mpr (by
          have := Nat.lt_of_not_le (fun z => c_54 (nI_le z (by omega)))
          omega)
        have e9 := hd_2 w hB9
        rw [e9]
        refine ⟨kasu (by decide) (kasu (by decide) (kp.su (by decide))), Or.inr ⟨?_, rfl, rfl, rfl, ?_, fun j hj => ?_, ?_⟩⟩
        · show 0 ≤ su (pcS σ) 6 0 (σ 4 0) 6 0
          rw [su_at]; exact at_0 hT.1
        · show _ = su (pcS σ) 6 0 (σ 4 0) 6 0
          rw [su_at (pcS σ)]; exact (su_at _ _ _ _).trans hT.2.1
        · show _ = su (pcS σ) 6 0 (σ 4 0) (20 + j) 0
          rw [su_k (show 20 + j ≠ 6 by omega), kp_S σ (20 + j) (by simp; omega), su_k (show 4 ≠ 1 by decide), su_k (show 4 ≠ 6 by decide), su_k (show 4 ≠ 1 by decide)]
          exact hA j hj
        · show _ = su (pcS σ) 6 0 (σ 4 0) 5 0
          rw [su_k (show 5 ≠ 6 by decide), kp_S σ 5 (by decide), su_j (show 1 ≠ 3 by decide), su_k (show 1 ≠ 6 by decide), su_j (show 1 ≠ 2 by decide)]
          exact hT.2.2.1
  · skip
    refine k_aload_n d_S_readHead_20 rfl rfl ?_
    refine k_getE d_S_readHead_21 fS_61 rfl (al_0 (by decide)) rfl (show su _ 6 6 (nI 2) 6 6 = nI 2 from su_at _ _ _ _) ?_
    refine k_iconst (v := nI 1) d_S_readHead_24 (by decide) ?_
    refine k_icmp_ne (tgt := 32) d_S_readHead_25 (by decide) (fun c_25 => ?_) (fun c_25 => ?_)
    · skip
      refine k_aload_n d_S_readHead_32 rfl rfl ?_
      refine k_getE d_S_readHead_33 fS_61 rfl (al_0 (by decide)) rfl (show su _ 6 6 (nI 2) 6 6 = nI 2 from su_at _ _ _ _) ?_
      refine k_iconst (v := nI 2) d_S_readHead_36 (by decide) ?_
      refine k_icmp_ne (tgt := 44) d_S_readHead_37 (by decide) (fun c_37 => ?_) (fun c_37 => ?_)
      · exact absurd rfl c_37
      · skip
        refine k_iconst (v := nI 1) d_S_readHead_40 (by decide) ?_
        refine k_goto (tgt := 45) d_S_readHead_41 (by decide) ?_
        refine k_istore_n d_S_readHead_45 rfl (Nat.le_of_ble_eq_true rfl) ?_
        refine k_iload_n d_S_readHead_46 rfl rfl ?_
        refine k_aload_n d_S_readHead_47 rfl rfl ?_
        refine k_getR d_S_readHead_48 fS_32 rfl (al_0 (by decide)) rfl rfl ?_
        refine k_getE d_S_readHead_51 fS_91 rfl (al_0 (by decide)) rfl (show su (su κ 1 2 _) 6 6 _ 3 7 = nI L from hL2) ?_
        refine k_icmp_le (tgt := 65) d_S_readHead_54 (by decide) (fun c_54 => ?_) (fun c_54 => ?_)
        · skip
          have hLb : 2 ≤ L + 1 := by
            have := (nI_leI (by omega) (by omega)).mp c_54
            omega
          have hnB : ¬ pcB (pcS σ) := fun z => by
            have := (pcB_iff hL1 h12 h13 e2 ⟨by decide, by decide⟩).mp z
            omega
          have hT1 := hd_T1 hT w e2
          refine k_aload_n d_S_readHead_65 rfl rfl ?_
          refine k_aload_n d_S_readHead_66 rfl rfl ?_
          refine k_getR d_S_readHead_67 fS_28 rfl (al_0 (by decide)) rfl rfl ?_
          refine k_iconst (v := nI 5) d_S_readHead_70 (by decide) ?_
          refine k_callT (As := [_]) d_S_readHead_71 lS_88 mv_T_nonZero rfl rfl (al_0 (by decide)) rfl rfl rfl (Nat.le_of_ble_eq_true rfl) (by decide) (t_nonZero (n := 5) hT1 (by decide) (by decide)) (fun w_71 => ?_) (fun w_71 x_71 => ?_)
          · skip
            have hT2 := hd_T2 (v := (fNA 5 (pcS σ)).1) hT1 w_71
            refine k_put d_S_readHead_74 fS_97 rfl (al_0 (by decide)) rfl rfl rfl rfl ?_
            refine k_aload_n d_S_readHead_77 rfl rfl ?_
            refine k_aload_n d_S_readHead_78 rfl rfl ?_
            refine k_getE d_S_readHead_79 fS_61 rfl (al_0 (by decide)) rfl (show su (su (su (su κ 1 2 ((fNA 2 σ).2 4 0)) 6 6 (nI 2)) 1 2 _) 6 7 _ 6 6 = nI 2 from rfl) ?_
            refine k_iconst (v := nI 1) d_S_readHead_82 (by decide) ?_
            refine k_icmp_ne (tgt := 90) d_S_readHead_83 (by decide) (fun c_83 => ?_) (fun c_83 => ?_)
            · skip
              refine k_bipush (v := nI 16) d_S_readHead_90 (by decide) ?_
              refine k_aload_n d_S_readHead_92 rfl rfl ?_
              refine k_getR d_S_readHead_93 fS_28 rfl (al_0 (by decide)) rfl rfl ?_
              refine k_iconst (v := nI 3) d_S_readHead_96 (by decide) ?_
              refine k_callT (As := [_]) d_S_readHead_97 lS_88 mv_T_nonZero rfl rfl (al_0 (by decide)) rfl rfl rfl (Nat.le_of_ble_eq_true rfl) (by decide) (t_nonZero (n := 3) hT2 (by decide) (by decide)) (fun w_97 => ?_) (fun w_97 x_97 => ?_)
              · skip
                refine k_ishl d_S_readHead_100 ?_
                refine k_put d_S_readHead_101 fS_100 rfl (al_0 (by decide)) rfl rfl rfl rfl ?_
                refine k_vret d_S_readHead_104 rfl ?_
                have e9 := hd_3 w hnB
                have kk : kp [1, 6] κ (su (su (su (su (su (su κ 1 2 ((fNA 2 σ).2 4 0)) 6 6 (nI 2)) 1 2 ((fNA 5 (pcS σ)).2 4 0)) 6 7 (fNA 5 (pcS σ)).1) 1 2 ((fNA 3 (pcQ (pcS σ))).2 4 0)) 6 8 (nI 16 <<< ((fNA 3 (pcQ (pcS σ))).1 &&& 31))) := (kasu (by decide) (kasu (by decide) (kasu (by decide) (kasu (by decide) (kasu (by decide) (kp.su (by decide)))))))
                have hF : HR (pcP (pcQ (pcS σ))) (su (su (su (su (su (su κ 1 2 ((fNA 2 σ).2 4 0)) 6 6 (nI 2)) 1 2 ((fNA 5 (pcS σ)).2 4 0)) 6 7 (fNA 5 (pcS σ)).1) 1 2 ((fNA 3 (pcQ (pcS σ))).2 4 0)) 6 8 (nI 16 <<< ((fNA 3 (pcQ (pcS σ))).1 &&& 31))) := HR.fin (κ3 := (su (su (su (su κ 1 2 ((fNA 2 σ).2 4 0)) 6 6 (nI 2)) 1 2 ((fNA 5 (pcS σ)).2 4 0)) 6 7 (fNA 5 (pcS σ)).1)) hA kk e2 ⟨by decide, by decide⟩ hL1 h12 h13 hLb hT2 (by rw [su_j (by decide), su_k (by decide), su_j (by decide), su_k (by decide), su_at]) (by rw [su_j (by decide), su_k (by decide), su_at]) (Or.inr ⟨by decide, w_97, rfl⟩)
                rw [e9, if_neg (by rw [hF.1.2.2.2.1]; decide)]
                clear e9
                generalize pcP (pcQ (pcS σ)) = X at hF ⊢
                exact ⟨kk, Or.inl ⟨hF.1.2.2.2.1, (show ¬ nI 1 = 0 by decide), rfl, rfl, hF⟩⟩
              · skip
                have e9 := hd_3 w hnB
                have h6 : pcP (pcQ (pcS σ)) 6 0 = (fNA 3 (pcQ (pcS σ))).2 6 0 := by
                  rw [pcP_6, if_neg (by rw [pcQ_34, e2]; decide)]
                have w9 : 0 ≤ pcP (pcQ (pcS σ)) 6 0 := by rw [h6]; exact w_97
                rw [e9, if_pos w9]
                have hTA := TA_P hA
                have hT5 : κ 1 1 = pcP (pcQ (pcS σ)) 5 0 := by rw [kp_P _ 5 (by decide), kp_Q _ 5 (by decide), kp_S σ 5 (by decide)]; exact hT.2.2.1
                clear e9
                generalize pcP (pcQ (pcS σ)) = X at w9 hTA hT5 h6 ⊢
                generalize (fNA 3 (pcQ (pcS σ))).2 = Y at *
                refine EQ.up (S := [1, 6]) (κ1 := su (su (su (su κ 1 2 ((fNA 2 σ).2 4 0)) 6 6 (nI 2)) 1 2 ((fNA 5 (pcS σ)).2 4 0)) 6 7 (fNA 5 (pcS σ)).1) (EQ.thr (τ := Y) (σ := X) (by decide) w_97 rfl h6 rfl ?_ (fun _ _ => rfl)) (kasu (by decide) (kasu (by decide) (kasu (by decide) (kp.su (by decide)))))
                exact ⟨hTA.ck (S := [1, 6]) (kasu (by decide) (kasu (by decide) (kasu (by decide) (kp.su (by decide))))) (by decide), by simp only [su_j (show 1 ≠ 2 by decide), su_k (show 1 ≠ 6 by decide)]; exact hT5⟩
            · exact absurd c_83 (by decide)
          · skip
            have e9 := hd_3 w hnB
            have w9 : 0 ≤ pcP (pcQ (pcS σ)) 6 0 := by rw [hd_q w_71]; exact w_71
            rw [e9, if_pos w9]
            have hTA := TA_P hA
            have hT5 : κ 1 1 = pcP (pcQ (pcS σ)) 5 0 := by rw [kp_P _ 5 (by decide), kp_Q _ 5 (by decide), kp_S σ 5 (by decide)]; exact hT.2.2.1
            have hq6 := hd_q w_71
            clear e9
            generalize pcP (pcQ (pcS σ)) = X at w9 hTA hT5 hq6 ⊢
            generalize (fNA 5 (pcS σ)).2 = Y at *
            refine EQ.up (S := [1, 6]) (κ1 := (su (su κ 1 2 ((fNA 2 σ).2 4 0)) 6 6 (nI 2))) (EQ.thr (τ := Y) (σ := X) (by decide) w_71 rfl hq6 rfl ?_ (fun _ _ => rfl)) (kasu (by decide) (kp.su (by decide)))
            exact ⟨hTA.ck (S := [1, 6]) (kasu (by decide) (kp.su (by decide))) (by decide), by simp only [su_j (show 1 ≠ 2 by decide), su_k (show 1 ≠ 6 by decide)]; exact hT5⟩
        · skip
          refine k_aload_n d_S_readHead_57 rfl rfl ?_
          refine k_getR d_S_readHead_58 fS_28 rfl (al_0 (by decide)) rfl rfl ?_
          refine k_iload_n d_S_readHead_61 rfl rfl ?_
          refine k_call (As := [_]) d_S_readHead_62 lS_94 mv_T_failAt rfl rfl (al_0 (by decide)) rfl rfl rfl (Nat.le_of_ble_eq_true rfl) (by decide) (t_failAt) (fun v_62 g_62 κ_62 q_62 => absurd q_62.1 (fun h9 => nomatch h9)) (fun E_62 g_62 κ_62 q_62 => ?_)
          obtain ⟨rE_62, rfl, rfl⟩ := q_62
          obtain rfl := Sum.inr.inj rE_62
          have hB9 : pcB (pcS σ) := (pcB_iff hL1 h12 h13 e2 ⟨by decide, by decide⟩).mpr (by
            have := Nat.lt_of_not_le (fun z => c_54 (nI_le z (by omega)))
            omega)
          have e9 := hd_2 w hB9
          rw [e9]
          refine ⟨kasu (by decide) (kasu (by decide) (kp.su (by decide))), Or.inr ⟨?_, rfl, rfl, rfl, ?_, fun j hj => ?_, ?_⟩⟩
          · show 0 ≤ su (pcS σ) 6 0 (σ 4 0) 6 0
            rw [su_at]; exact at_0 hT.1
          · show _ = su (pcS σ) 6 0 (σ 4 0) 6 0
            rw [su_at (pcS σ)]; exact (su_at _ _ _ _).trans hT.2.1
          · show _ = su (pcS σ) 6 0 (σ 4 0) (20 + j) 0
            rw [su_k (show 20 + j ≠ 6 by omega), kp_S σ (20 + j) (by simp; omega), su_k (show 4 ≠ 1 by decide), su_k (show 4 ≠ 6 by decide), su_k (show 4 ≠ 1 by decide)]
            exact hA j hj
          · show _ = su (pcS σ) 6 0 (σ 4 0) 5 0
            rw [su_k (show 5 ≠ 6 by decide), kp_S σ 5 (by decide), su_j (show 1 ≠ 3 by decide), su_k (show 1 ≠ 6 by decide), su_j (show 1 ≠ 2 by decide)]
            exact hT.2.2.1
    · exact absurd c_25 (by decide)
  · skip
    refine k_aload_n d_S_readHead_20 rfl rfl ?_
    refine k_getE d_S_readHead_21 fS_61 rfl (al_0 (by decide)) rfl (show su _ 6 6 (nI 3) 6 6 = nI 3 from su_at _ _ _ _) ?_
    refine k_iconst (v := nI 1) d_S_readHead_24 (by decide) ?_
    refine k_icmp_ne (tgt := 32) d_S_readHead_25 (by decide) (fun c_25 => ?_) (fun c_25 => ?_)
    · skip
      refine k_aload_n d_S_readHead_32 rfl rfl ?_
      refine k_getE d_S_readHead_33 fS_61 rfl (al_0 (by decide)) rfl (show su _ 6 6 (nI 3) 6 6 = nI 3 from su_at _ _ _ _) ?_
      refine k_iconst (v := nI 2) d_S_readHead_36 (by decide) ?_
      refine k_icmp_ne (tgt := 44) d_S_readHead_37 (by decide) (fun c_37 => ?_) (fun c_37 => ?_)
      · skip
        refine k_iconst (v := nI 2) d_S_readHead_44 (by decide) ?_
        refine k_istore_n d_S_readHead_45 rfl (Nat.le_of_ble_eq_true rfl) ?_
        refine k_iload_n d_S_readHead_46 rfl rfl ?_
        refine k_aload_n d_S_readHead_47 rfl rfl ?_
        refine k_getR d_S_readHead_48 fS_32 rfl (al_0 (by decide)) rfl rfl ?_
        refine k_getE d_S_readHead_51 fS_91 rfl (al_0 (by decide)) rfl (show su (su κ 1 2 _) 6 6 _ 3 7 = nI L from hL2) ?_
        refine k_icmp_le (tgt := 65) d_S_readHead_54 (by decide) (fun c_54 => ?_) (fun c_54 => ?_)
        · skip
          have hLb : 3 ≤ L + 1 := by
            have := (nI_leI (by omega) (by omega)).mp c_54
            omega
          have hnB : ¬ pcB (pcS σ) := fun z => by
            have := (pcB_iff hL1 h12 h13 e2 ⟨by decide, by decide⟩).mp z
            omega
          have hT1 := hd_T1 hT w e2
          refine k_aload_n d_S_readHead_65 rfl rfl ?_
          refine k_aload_n d_S_readHead_66 rfl rfl ?_
          refine k_getR d_S_readHead_67 fS_28 rfl (al_0 (by decide)) rfl rfl ?_
          refine k_iconst (v := nI 5) d_S_readHead_70 (by decide) ?_
          refine k_callT (As := [_]) d_S_readHead_71 lS_88 mv_T_nonZero rfl rfl (al_0 (by decide)) rfl rfl rfl (Nat.le_of_ble_eq_true rfl) (by decide) (t_nonZero (n := 5) hT1 (by decide) (by decide)) (fun w_71 => ?_) (fun w_71 x_71 => ?_)
          · skip
            have hT2 := hd_T2 (v := (fNA 5 (pcS σ)).1) hT1 w_71
            refine k_put d_S_readHead_74 fS_97 rfl (al_0 (by decide)) rfl rfl rfl rfl ?_
            refine k_aload_n d_S_readHead_77 rfl rfl ?_
            refine k_aload_n d_S_readHead_78 rfl rfl ?_
            refine k_getE d_S_readHead_79 fS_61 rfl (al_0 (by decide)) rfl (show su (su (su (su κ 1 2 ((fNA 2 σ).2 4 0)) 6 6 (nI 3)) 1 2 _) 6 7 _ 6 6 = nI 3 from rfl) ?_
            refine k_iconst (v := nI 1) d_S_readHead_82 (by decide) ?_
            refine k_icmp_ne (tgt := 90) d_S_readHead_83 (by decide) (fun c_83 => ?_) (fun c_83 => ?_)
            · skip
              refine k_bipush (v := nI 16) d_S_readHead_90 (by decide) ?_
              refine k_aload_n d_S_readHead_92 rfl rfl ?_
              refine k_getR d_S_readHead_93 fS_28 rfl (al_0 (by decide)) rfl rfl ?_
              refine k_iconst (v := nI 3) d_S_readHead_96 (by decide) ?_
              refine k_callT (As := [_]) d_S_readHead_97 lS_88 mv_T_nonZero rfl rfl (al_0 (by decide)) rfl rfl rfl (Nat.le_of_ble_eq_true rfl) (by decide) (t_nonZero (n := 3) hT2 (by decide) (by decide)) (fun w_97 => ?_) (fun w_97 x_97 => ?_)
              · skip
                refine k_ishl d_S_readHead_100 ?_
                refine k_put d_S_readHead_101 fS_100 rfl (al_0 (by decide)) rfl rfl rfl rfl ?_
                refine k_vret d_S_readHead_104 rfl ?_
                have e9 := hd_3 w hnB
                have kk : kp [1, 6] κ (su (su (su (su (su (su κ 1 2 ((fNA 2 σ).2 4 0)) 6 6 (nI 3)) 1 2 ((fNA 5 (pcS σ)).2 4 0)) 6 7 (fNA 5 (pcS σ)).1) 1 2 ((fNA 3 (pcQ (pcS σ))).2 4 0)) 6 8 (nI 16 <<< ((fNA 3 (pcQ (pcS σ))).1 &&& 31))) := (kasu (by decide) (kasu (by decide) (kasu (by decide) (kasu (by decide) (kasu (by decide) (kp.su (by decide)))))))
                have hF : HR (pcP (pcQ (pcS σ))) (su (su (su (su (su (su κ 1 2 ((fNA 2 σ).2 4 0)) 6 6 (nI 3)) 1 2 ((fNA 5 (pcS σ)).2 4 0)) 6 7 (fNA 5 (pcS σ)).1) 1 2 ((fNA 3 (pcQ (pcS σ))).2 4 0)) 6 8 (nI 16 <<< ((fNA 3 (pcQ (pcS σ))).1 &&& 31))) := HR.fin (κ3 := (su (su (su (su κ 1 2 ((fNA 2 σ).2 4 0)) 6 6 (nI 3)) 1 2 ((fNA 5 (pcS σ)).2 4 0)) 6 7 (fNA 5 (pcS σ)).1)) hA kk e2 ⟨by decide, by decide⟩ hL1 h12 h13 hLb hT2 (by rw [su_j (by decide), su_k (by decide), su_j (by decide), su_k (by decide), su_at]) (by rw [su_j (by decide), su_k (by decide), su_at]) (Or.inr ⟨by decide, w_97, rfl⟩)
                rw [e9, if_neg (by rw [hF.1.2.2.2.1]; decide)]
                clear e9
                generalize pcP (pcQ (pcS σ)) = X at hF ⊢
                exact ⟨kk, Or.inl ⟨hF.1.2.2.2.1, (show ¬ nI 1 = 0 by decide), rfl, rfl, hF⟩⟩
              · skip
                have e9 := hd_3 w hnB
                have h6 : pcP (pcQ (pcS σ)) 6 0 = (fNA 3 (pcQ (pcS σ))).2 6 0 := by
                  rw [pcP_6, if_neg (by rw [pcQ_34, e2]; decide)]
                have w9 : 0 ≤ pcP (pcQ (pcS σ)) 6 0 := by rw [h6]; exact w_97
                rw [e9, if_pos w9]
                have hTA := TA_P hA
                have hT5 : κ 1 1 = pcP (pcQ (pcS σ)) 5 0 := by rw [kp_P _ 5 (by decide), kp_Q _ 5 (by decide), kp_S σ 5 (by decide)]; exact hT.2.2.1
                clear e9
                generalize pcP (pcQ (pcS σ)) = X at w9 hTA hT5 h6 ⊢
                generalize (fNA 3 (pcQ (pcS σ))).2 = Y at *
                refine EQ.up (S := [1, 6]) (κ1 := su (su (su (su κ 1 2 ((fNA 2 σ).2 4 0)) 6 6 (nI 3)) 1 2 ((fNA 5 (pcS σ)).2 4 0)) 6 7 (fNA 5 (pcS σ)).1) (EQ.thr (τ := Y) (σ := X) (by decide) w_97 rfl h6 rfl ?_ (fun _ _ => rfl)) (kasu (by decide) (kasu (by decide) (kasu (by decide) (kp.su (by decide)))))
                exact ⟨hTA.ck (S := [1, 6]) (kasu (by decide) (kasu (by decide) (kasu (by decide) (kp.su (by decide))))) (by decide), by simp only [su_j (show 1 ≠ 2 by decide), su_k (show 1 ≠ 6 by decide)]; exact hT5⟩
            · exact absurd c_83 (by decide)
          · skip
            have e9 := hd_3 w hnB
            have w9 : 0 ≤ pcP (pcQ (pcS σ)) 6 0 := by rw [hd_q w_71]; exact w_71
            rw [e9, if_pos w9]
            have hTA := TA_P hA
            have hT5 : κ 1 1 = pcP (pcQ (pcS σ)) 5 0 := by rw [kp_P _ 5 (by decide), kp_Q _ 5 (by decide), kp_S σ 5 (by decide)]; exact hT.2.2.1
            have hq6 := hd_q w_71
            clear e9
            generalize pcP (pcQ (pcS σ)) = X at w9 hTA hT5 hq6 ⊢
            generalize (fNA 5 (pcS σ)).2 = Y at *
            refine EQ.up (S := [1, 6]) (κ1 := (su (su κ 1 2 ((fNA 2 σ).2 4 0)) 6 6 (nI 3))) (EQ.thr (τ := Y) (σ := X) (by decide) w_71 rfl hq6 rfl ?_ (fun _ _ => rfl)) (kasu (by decide) (kp.su (by decide)))
            exact ⟨hTA.ck (S := [1, 6]) (kasu (by decide) (kp.su (by decide))) (by decide), by simp only [su_j (show 1 ≠ 2 by decide), su_k (show 1 ≠ 6 by decide)]; exact hT5⟩
        · skip
          refine k_aload_n d_S_readHead_57 rfl rfl ?_
          refine k_getR d_S_readHead_58 fS_28 rfl (al_0 (by decide)) rfl rfl ?_
          refine k_iload_n d_S_readHead_61 rfl rfl ?_
          refine k_call (As := [_]) d_S_readHead_62 lS_94 mv_T_failAt rfl rfl (al_0 (by decide)) rfl rfl rfl (Nat.le_of_ble_eq_true rfl) (by decide) (t_failAt) (fun v_62 g_62 κ_62 q_62 => absurd q_62.1 (fun h9 => nomatch h9)) (fun E_62 g_62 κ_62 q_62 => ?_)
          obtain ⟨rE_62, rfl, rfl⟩ := q_62
          obtain rfl := Sum.inr.inj rE_62
          have hB9 : pcB (pcS σ) := (pcB_iff hL1 h12 h13 e2 ⟨by decide, by decide⟩).mpr (by
            have := Nat.lt_of_not_le (fun z => c_54 (nI_le z (by omega)))
            omega)
          have e9 := hd_2 w hB9
          rw [e9]
          refine ⟨kasu (by decide) (kasu (by decide) (kp.su (by decide))), Or.inr ⟨?_, rfl, rfl, rfl, ?_, fun j hj => ?_, ?_⟩⟩
          · show 0 ≤ su (pcS σ) 6 0 (σ 4 0) 6 0
            rw [su_at]; exact at_0 hT.1
          · show _ = su (pcS σ) 6 0 (σ 4 0) 6 0
            rw [su_at (pcS σ)]; exact (su_at _ _ _ _).trans hT.2.1
          · show _ = su (pcS σ) 6 0 (σ 4 0) (20 + j) 0
            rw [su_k (show 20 + j ≠ 6 by omega), kp_S σ (20 + j) (by simp; omega), su_k (show 4 ≠ 1 by decide), su_k (show 4 ≠ 6 by decide), su_k (show 4 ≠ 1 by decide)]
            exact hA j hj
          · show _ = su (pcS σ) 6 0 (σ 4 0) 5 0
            rw [su_k (show 5 ≠ 6 by decide), kp_S σ 5 (by decide), su_j (show 1 ≠ 3 by decide), su_k (show 1 ≠ 6 by decide), su_j (show 1 ≠ 2 by decide)]
            exact hT.2.2.1
      · exact absurd c_37 (by decide)
    · exact absurd c_25 (by decide)

theorem s_readHead {s0 : State} {l : Launch} {c : Cx} {g : Gh} {κ : Sg} {σ : Sg} (hT : TRel κ σ) (hA : TA κ σ) (hL : LN κ σ) : KC s0 l M_S_readHead c [.ref (gA g 6)] g κ (EQ [1, 6] g κ (hdR σ) (HR (hdR σ).2)) := by
  refine k_in (by decide) rfl rfl (Nat.le_of_ble_eq_true rfl) (fun hB => ?_)
  refine k_aload_n d_S_readHead_0 rfl rfl ?_
  refine k_getR d_S_readHead_1 fS_28 rfl (al_0 (by decide)) rfl rfl ?_
  refine k_get d_S_readHead_4 fS_85 rfl (al_0 (by decide)) rfl ?_
  refine k_istore_n d_S_readHead_7 rfl (Nat.le_of_ble_eq_true rfl) ?_
  refine k_aload_n d_S_readHead_8 rfl rfl ?_
  refine k_aload_n d_S_readHead_9 rfl rfl ?_
  refine k_getR d_S_readHead_10 fS_28 rfl (al_0 (by decide)) rfl rfl ?_
  refine k_iconst (v := nI 2) d_S_readHead_13 (by decide) ?_
  refine k_callT (As := [_]) d_S_readHead_14 lS_88 mv_T_nonZero rfl rfl (al_0 (by decide)) rfl rfl rfl (Nat.le_of_ble_eq_true rfl) (by decide) (t_nonZero (n := 2) hT (by decide) (by decide)) (fun w_14 => ?_) (fun w_14 x_14 => ?_)
  · skip
    obtain ⟨b, e2, hb⟩ := hd_s hT w_14
    rw [e2]
    refine k_put d_S_readHead_17 fS_61 rfl (al_0 (by decide)) rfl rfl rfl rfl ?_
    obtain ⟨L, l1, l2, l3, l4⟩ := hL
    exact s_rh_b hT hA l1 l2 l3 l4 w_14 e2 hb
  · skip
    rw [hd_1 hT w_14]
    exact EQ.thr (τ := (fNA 2 σ).2) (σ := σ) (by decide) w_14 rfl (show su (fNA 2 σ).2 34 0 (fNA 2 σ).1 6 0 = _ from su_k (by decide)) rfl ⟨hA, hT.2.2.1⟩ (fun j hj => (show su (fNA 2 σ).2 34 0 (fNA 2 σ).1 j 0 = (fNA 2 σ).2 j 0 from su_k (by omega)).trans (tk_na 2 σ j (by omega) (by omega) 0))

