/-! ===== marks and the size ===== -/

theorem s_comes {s0 : State} {l : Launch} {c : Cx} {g : Gh} {κ : Sg} {σ : Sg} (hT : TRel κ σ) : KC s0 l M_S_pictureComes c [.ref (gA g 6)] g κ (RdP g κ (fIF (nI 256) (nI 439) 32 (nI 1) (nI 1) σ).2 (some (.int (fIF (nI 256) (nI 439) 32 (nI 1) (nI 1) σ).1))) := by
  refine k_in (by decide) rfl rfl (Nat.le_of_ble_eq_true rfl) (fun hB => ?_)
  refine k_aload_n d_S_pictureComes_0 rfl rfl ?_
  refine k_getR d_S_pictureComes_1 fS_28 rfl (al_0 (by decide)) rfl rfl ?_
  refine k_iconst (v := nI 1) d_S_pictureComes_4 (by decide) ?_
  refine k_bipush (v := nI 24) d_S_pictureComes_5 (by decide) ?_
  refine k_callTv (As := [_, _]) d_S_pictureComes_7 lS_36 mv_T_expect rfl rfl (al_0 (by decide)) rfl rfl rfl (Nat.le_of_ble_eq_true rfl) (by decide) (t_expect (n := 24) (val := nI 1) hT (by decide)) (fun w_7 => ?_) (fun w_7 x_7 => ?_)
  · skip
    have e1 : fIF (nI 256) (nI 439) 32 (nI 1) (nI 1) σ = fIF (nI 256) (nI 439) 8 (nI 1) (nI 1) (fEx (nI 1) 24 σ) := (if_mk 24 σ (by decide) hT.1 hT.2.2.2.1).2 w_7
    have hT1 := hT.next (tk_ex 24 σ) (okR.ex 24 hT.1) w_7
    obtain ⟨m1, m2⟩ := mk8 hT1.1 w_7
    refine k_aload_n d_S_pictureComes_10 rfl rfl ?_
    refine k_getR d_S_pictureComes_11 fS_28 rfl (al_0 (by decide)) rfl rfl ?_
    refine k_callT (As := []) d_S_pictureComes_14 lS_54 mv_T_next rfl rfl (al_0 (by decide)) rfl rfl rfl (Nat.le_of_ble_eq_true rfl) (by decide) (t_next hT1) (fun w_14 => ?_) (fun w_14 x_14 => ?_)
    · skip
      have hT2 := hT1.next (tk_bit _) hT1.1.bit w_14
      rw [su_su] at hT2 ⊢
      refine k_if_ne (tgt := 24) d_S_pictureComes_17 (by decide) (fun c_17 => ?_) (fun c_17 => ?_)
      · skip
        refine k_iconst (v := nI 0) d_S_pictureComes_24 (by decide) ?_
        refine k_istore_n d_S_pictureComes_25 rfl (Nat.le_of_ble_eq_true rfl) ?_
        refine k_aload_n d_S_pictureComes_26 rfl rfl ?_
        refine k_getR d_S_pictureComes_27 fS_28 rfl (al_0 (by decide)) rfl rfl ?_
        refine k_iload_n d_S_pictureComes_30 rfl rfl ?_
        refine k_if_eq (tgt := 40) d_S_pictureComes_31 (by decide) (fun c_31 => ?_) (fun c_31 => ?_)
        · skip
          refine k_sipush (v := nI 439) d_S_pictureComes_40 (by decide) ?_
          refine k_bipush (v := nI 7) d_S_pictureComes_43 (by decide) ?_
          refine k_callTv (As := [_, _]) d_S_pictureComes_45 lS_36 mv_T_expect rfl rfl (al_0 (by decide)) rfl rfl rfl (Nat.le_of_ble_eq_true rfl) (by decide) (t_expect (n := 7) hT2 (by decide)) (fun w_45 => ?_) (fun w_45 x_45 => ?_)
          · skip
            refine k_iload_n d_S_pictureComes_48 rfl rfl ?_
            refine k_iret d_S_pictureComes_49 rfl rfl ?_
            obtain ⟨j1, j2⟩ := if_01 (v := nI 256) (t := nI 439) 7 (fBit (fEx (nI 1) 24 σ)).2 hT2.1 hT2.2.2.2.1
            have e9 : fIF (nI 256) (nI 439) 32 (nI 1) (nI 1) σ = fIF (nI 256) (nI 439) 7 (nI 0) (nI 1) (fBit (fEx (nI 1) 24 σ)).2 := e1.trans ((m2 w_14).2 c_17)
            rw [su_su]
            have e8 : (fIF (nI 256) (nI 439) 32 (nI 1) (nI 1) σ).1 = nI 0 := by rw [e9]; exact j2 w_45
            rw [e8]
            exact Or.inl ⟨by rw [e9, j1]; exact w_45, rfl, rfl, by rw [e9, j1]⟩
          · skip
            obtain ⟨j1, j2⟩ := if_01 (v := nI 256) (t := nI 439) 7 (fBit (fEx (nI 1) 24 σ)).2 hT2.1 hT2.2.2.2.1
            have e9 : fIF (nI 256) (nI 439) 32 (nI 1) (nI 1) σ = fIF (nI 256) (nI 439) 7 (nI 0) (nI 1) (fBit (fEx (nI 1) 24 σ)).2 := e1.trans ((m2 w_14).2 c_17)
            rw [su_su]
            exact RdP.thr w_45 (by rw [e9, j1]) rfl
        · exact absurd rfl c_31
      · skip
        refine k_iconst (v := nI 1) d_S_pictureComes_20 (by decide) ?_
        refine k_goto (tgt := 25) d_S_pictureComes_21 (by decide) ?_
        refine k_istore_n d_S_pictureComes_25 rfl (Nat.le_of_ble_eq_true rfl) ?_
        refine k_aload_n d_S_pictureComes_26 rfl rfl ?_
        refine k_getR d_S_pictureComes_27 fS_28 rfl (al_0 (by decide)) rfl rfl ?_
        refine k_iload_n d_S_pictureComes_30 rfl rfl ?_
        refine k_if_eq (tgt := 40) d_S_pictureComes_31 (by decide) (fun c_31 => ?_) (fun c_31 => ?_)
        · exact absurd c_31 (by decide)
        · skip
          refine k_sipush (v := nI 256) d_S_pictureComes_34 (by decide) ?_
          refine k_goto (tgt := 43) d_S_pictureComes_37 (by decide) ?_
          refine k_bipush (v := nI 7) d_S_pictureComes_43 (by decide) ?_
          refine k_callTv (As := [_, _]) d_S_pictureComes_45 lS_36 mv_T_expect rfl rfl (al_0 (by decide)) rfl rfl rfl (Nat.le_of_ble_eq_true rfl) (by decide) (t_expect (n := 7) hT2 (by decide)) (fun w_45 => ?_) (fun w_45 x_45 => ?_)
          · skip
            refine k_iload_n d_S_pictureComes_48 rfl rfl ?_
            refine k_iret d_S_pictureComes_49 rfl rfl ?_
            obtain ⟨j1, j2⟩ := if_10 (v := nI 256) (t := nI 439) 7 (fBit (fEx (nI 1) 24 σ)).2 hT2.1 hT2.2.2.2.1
            have e9 : fIF (nI 256) (nI 439) 32 (nI 1) (nI 1) σ = fIF (nI 256) (nI 439) 7 (nI 1) (nI 0) (fBit (fEx (nI 1) 24 σ)).2 := e1.trans ((m2 w_14).1 c_17)
            rw [su_su]
            have e8 : (fIF (nI 256) (nI 439) 32 (nI 1) (nI 1) σ).1 = nI 1 := by rw [e9]; exact j2 w_45
            rw [e8]
            exact Or.inl ⟨by rw [e9, j1]; exact w_45, rfl, rfl, by rw [e9, j1]⟩
          · skip
            obtain ⟨j1, j2⟩ := if_10 (v := nI 256) (t := nI 439) 7 (fBit (fEx (nI 1) 24 σ)).2 hT2.1 hT2.2.2.2.1
            have e9 : fIF (nI 256) (nI 439) 32 (nI 1) (nI 1) σ = fIF (nI 256) (nI 439) 7 (nI 1) (nI 0) (fBit (fEx (nI 1) 24 σ)).2 := e1.trans ((m2 w_14).1 c_17)
            rw [su_su]
            exact RdP.thr w_45 (by rw [e9, j1]) rfl
    · skip
      have e9 : (fIF (nI 256) (nI 439) 32 (nI 1) (nI 1) σ).2 = (fBit (fEx (nI 1) 24 σ)).2 := by rw [e1, m1 w_14]
      rw [su_su]
      exact RdP.thr w_14 e9 rfl
  · skip
    have e1 : (fIF (nI 256) (nI 439) 32 (nI 1) (nI 1) σ).2 = fEx (nI 1) 24 σ := (if_mk 24 σ (by decide) hT.1 hT.2.2.2.1).1 w_7
    exact RdP.thr w_7 e1 rfl

theorem rz_T {κ σ : Sg} {a b : Nat} {x : Int32} (hT : TRel (su κ 1 2 x) (stN σ)) (kN : kp [4, 6] σ (stN σ)) (hA : TA κ σ) (ea : stA σ = nI (a + 1)) (eb : stB σ = nI (b + 1)) :
    TRel (su (su (su (su (su κ 1 2 x) 3 2 (nI (a + 1))) 3 3 (nI (b + 1))) 4 0 (nI 16 * nI (a + 1))) 4 1 (nI 16 * nI (b + 1))) (stZ σ) ∧ TA (su (su (su (su (su κ 1 2 x) 3 2 (nI (a + 1))) 3 3 (nI (b + 1))) 4 0 (nI 16 * nI (a + 1))) 4 1 (nI 16 * nI (b + 1))) (stZ σ) ∧ kp [1, 3, 4] κ (su (su (su (su (su κ 1 2 x) 3 2 (nI (a + 1))) 3 3 (nI (b + 1))) 4 0 (nI 16 * nI (a + 1))) 4 1 (nI 16 * nI (b + 1))) := by
  have kZ : kp [7, 8, 20, 21] (stN σ) (stZ σ) := by
    unfold stZ
    exact (((kp.su (by decide)).trans (kp.su (by decide))).trans (kp.su (by decide))).trans (kp.su (by decide))
  refine ⟨?_, fun j hj => ?_, kasu (by decide) (kasu (by decide) (kasu (by decide) (kasu (by decide) (kp.su (by decide)))))⟩
  · refine (hT.ck (S := [3, 4]) (kasu (by decide) (kasu (by decide) (kasu (by decide) (kp.su (by decide))))) (by decide) (by decide)).cs kZ (by decide) (by decide) (by decide) (by decide)
  · by_cases e1 : j = 1
    · subst e1
      rw [su_at]
      unfold stZ
      rw [show 20 + 1 = 21 from rfl, su_at, eb]
    · rw [su_j e1]
      by_cases e0 : j = 0
      · subst e0
        rw [su_at]
        unfold stZ
        rw [show 20 + 0 = 20 from rfl, su_k (by decide), su_at, ea]
      · rw [su_j e0, su_k (by decide), su_k (by decide), su_k (by decide), hA j hj, kZ (20 + j) (by simp; omega), kN (20 + j) (by simp; omega)]

theorem s_readSize {s0 : State} {l : Launch} {c : Cx} {g : Gh} {κ : Sg} {σ : Sg} (hT : TRel κ σ) (hA : TA κ σ) : KC s0 l M_S_readSize c [.ref (gA g 6)] g κ (RZ g κ σ) := by
  refine k_in (by decide) rfl rfl (Nat.le_of_ble_eq_true rfl) (fun hB => ?_)
  refine k_aload_n d_S_readSize_0 rfl rfl ?_
  refine k_getR d_S_readSize_1 fS_28 rfl (al_0 (by decide)) rfl rfl ?_
  refine k_sipush (v := nI 21074) d_S_readSize_4 (by decide) ?_
  refine k_bipush (v := nI 16) d_S_readSize_7 (by decide) ?_
  refine k_callTv (As := [_, _]) d_S_readSize_9 lS_36 mv_T_expect rfl rfl (al_0 (by decide)) rfl rfl rfl (Nat.le_of_ble_eq_true rfl) (by decide) (t_expect (n := 16) (val := nI 21074) hT (by decide)) (fun w_9 => ?_) (fun w_9 x_9 => ?_)
  · skip
    have eM := stM_e hT.1 hT.2.2.2.1
    rw [← eM] at w_9 ⊢
    have hM : ¬ 0 ≤ stM σ 6 0 := by rw [w_9]; decide
    have kM : tk σ (stM σ) := by rw [eM]; exact tk_ex 16 σ
    have hT1 : TRel (su κ 1 2 (stM σ 4 0)) (stM σ) := hT.next kM (by rw [eM]; exact okR.ex 16 hT.1) w_9
    obtain ⟨a, ea, ha4⟩ := num_4 hT1.1
    refine k_aload_n d_S_readSize_12 rfl rfl ?_
    refine k_getR d_S_readSize_13 fS_28 rfl (al_0 (by decide)) rfl rfl ?_
    refine k_iconst (v := nI 2) d_S_readSize_16 (by decide) ?_
    refine k_callT (As := [_]) d_S_readSize_17 lS_42 mv_T_number rfl rfl (al_0 (by decide)) rfl rfl rfl (Nat.le_of_ble_eq_true rfl) (by decide) (t_number (n := 2) hT1 (by decide)) (fun w_17 => ?_) (fun w_17 x_17 => ?_)
    · skip
      have kN := tk_num 2 0 (stM σ)
      have hT2 := hT1.next kN (okR.num 2 0 hT1.1) w_17
      obtain ⟨b, eb, hb4⟩ := num_4 hT2.1
      rw [su_su] at hT2 ⊢
      rw [ea]
      refine k_iconst (v := nI 1) d_S_readSize_20 (by decide) ?_
      refine k_iaddN d_S_readSize_21  ?_
      refine k_istore_n d_S_readSize_22 rfl (Nat.le_of_ble_eq_true rfl) ?_
      refine k_aload_n d_S_readSize_23 rfl rfl ?_
      refine k_getR d_S_readSize_24 fS_28 rfl (al_0 (by decide)) rfl rfl ?_
      refine k_iconst (v := nI 2) d_S_readSize_27 (by decide) ?_
      refine k_callT (As := [_]) d_S_readSize_28 lS_42 mv_T_number rfl rfl (al_0 (by decide)) rfl rfl rfl (Nat.le_of_ble_eq_true rfl) (by decide) (t_number (n := 2) hT2 (by decide)) (fun w_28 => ?_) (fun w_28 x_28 => ?_)
      · skip
        have kN2 := tk_num 2 0 (fNum 2 0 (stM σ)).2
        have hT3 : TRel _ (stN σ) := hT2.next kN2 (okR.num 2 0 hT2.1) w_28
        have wN : ¬ 0 ≤ stN σ 6 0 := by rw [show stN σ 6 0 = -1 from w_28]; decide
        rw [su_su] at hT3 ⊢
        rw [eb]
        obtain ⟨s1, s2, s3, s4⟩ := str_3 hM wN ea ha4 eb hb4
        have kNN : kp [4, 6] σ (stN σ) := ((tk_kp kM).trans (tk_kp kN)).trans (tk_kp kN2)
        refine k_iconst (v := nI 1) d_S_readSize_31 (by decide) ?_
        refine k_iaddN d_S_readSize_32  ?_
        refine k_istore_n d_S_readSize_33 rfl (Nat.le_of_ble_eq_true rfl) ?_
        refine k_aload_n d_S_readSize_34 rfl rfl ?_
        refine k_getR d_S_readSize_35 fS_32 rfl (al_0 (by decide)) rfl rfl ?_
        refine k_iload_n d_S_readSize_38 rfl rfl ?_
        refine k_iload_n d_S_readSize_39 rfl rfl ?_
        refine k_callv (As := [_, _]) d_S_readSize_40 lS_46 mv_R_setSize rfl rfl (al_0 (by decide)) rfl rfl rfl (Nat.le_of_ble_eq_true rfl) (by decide) (r_setSize) ?_
        have hZ := rz_T (κ := κ) hT3 kNN hA s3 s4
        obtain ⟨hT4, hA4, k4⟩ := hZ
        obtain ⟨p, e, hp, he, hpe, he2⟩ := hT4.1.1
        have hp2 : p ≤ 32000 := by omega
        have eA : fAl 8 (stZ σ) = fEx (nI 0) ((8 - p % 8) % 8) (stZ σ) := al_ex 8 (stZ σ) p hT4.1 hp hp2 hT4.2.2.2.1 (by omega)
        have kA := tk_kp (tk_al 8 (stZ σ))
        refine k_aload_n d_S_readSize_43 rfl rfl ?_
        refine k_getR d_S_readSize_44 fS_28 rfl (al_0 (by decide)) rfl rfl ?_
        refine k_callTv (As := []) d_S_readSize_47 lS_51 mv_T_align rfl rfl (al_0 (by decide)) rfl rfl rfl (Nat.le_of_ble_eq_true rfl) (by decide) (t_align hT4 hp hp2) (fun w_47 => ?_) (fun w_47 x_47 => ?_)
        · skip
          rw [← eA] at w_47 ⊢
          refine k_vret d_S_readSize_50 rfl ?_
          refine Or.inr ⟨a + 1, b + 1, ⟨⟨by omega, by omega⟩, by omega, by omega⟩, s2, s1, kasu (by decide) k4, fun j h2 h3 => ?_, rfl, rfl, ?_, Or.inl ⟨rfl, rfl, hT4.next (tk_al 8 _) (okR.al 8 hT4.1) w_47⟩⟩
          · simp only [su_k (show 3 ≠ 1 by decide), su_k (show 3 ≠ 4 by decide), su_j h3, su_j h2]
          · exact (hA4.ck (S := [1]) (kp.su (by decide)) (by decide)).cs kA (by decide)
        · skip
          rw [← eA] at w_47 ⊢
          refine Or.inr ⟨a + 1, b + 1, ⟨⟨by omega, by omega⟩, by omega, by omega⟩, s2, s1, kasu (by decide) (kasu (by decide) k4), fun j h2 h3 => ?_, rfl, rfl, ?_, Or.inr ⟨rfl, rfl, w_47, su_at _ _ _ _, rfl⟩⟩
          · simp only [su_k (show 3 ≠ 1 by decide), su_k (show 3 ≠ 4 by decide), su_j h3, su_j h2]
          · exact (hA4.ck (S := [1]) ((kp.su (by decide)).trans (kp.su (by decide))) (by decide)).cs kA (by decide)
      · skip
        have kN2 := tk_num 2 0 (fNum 2 0 (stM σ)).2
        rw [su_su]
        exact Or.inl ⟨rfl, rfl, stN σ, str_2 hM w_28, w_28, ((tk_kp kM).trans (tk_kp kN)).trans (tk_kp kN2), (kp.su (by decide)).trans (kp.su (by decide)), su_at _ _ _ _, by rw [su_j (by decide), su_j (by decide)]⟩
    · skip
      have kN := tk_num 2 0 (stM σ)
      have eN : stN σ = (fNum 2 0 (stM σ)).2 := num_w w_17 2 0
      have wN : 0 ≤ stN σ 6 0 := by rw [eN]; exact w_17
      rw [su_su, ← eN]
      exact Or.inl ⟨rfl, rfl, stN σ, str_2 hM wN, wN, by rw [eN]; exact (tk_kp kM).trans (tk_kp kN), (kp.su (by decide)).trans (kp.su (by decide)), su_at _ _ _ _, by rw [su_j (by decide), su_j (by decide)]⟩
  · skip
    have eM := stM_e hT.1 hT.2.2.2.1
    rw [← eM] at w_9 ⊢
    have kM : tk σ (stM σ) := by rw [eM]; exact tk_ex 16 σ
    exact Or.inl ⟨rfl, rfl, stM σ, str_1 w_9, w_9, tk_kp kM, (kp.su (by decide)).trans (kp.su (by decide)), su_at _ _ _ _, by rw [su_j (by decide), su_j (by decide)]⟩

