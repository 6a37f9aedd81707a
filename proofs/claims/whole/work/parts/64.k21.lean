/-! ===== read ===== -/
theorem stZ_f {σ : Sg} (hR : okR σ) : okR (stZ σ) ∧ kp [4, 6, 7, 8, 20, 21] σ (stZ σ) := by
  have k1 : kp [4, 6] σ (stM σ) := tk_kp (tk_if 16 (nI 1) (nI 1) σ)
  have k2 : kp [4, 6] (stM σ) (stN σ) := (tk_kp (tk_num 2 0 (stM σ))).trans (tk_kp (tk_num 2 0 _))
  have k3 : kp [7, 8, 20, 21] (stN σ) (stZ σ) := by
    unfold stZ
    exact (((kp.su (by decide)).trans (kp.su (by decide))).trans (kp.su (by decide))).trans (kp.su (by decide))
  have r1 : okR (stM σ) := okR.if1 16 (nI 1) (nI 1) hR
  have r2 : okR (stN σ) := okR.num 2 0 (okR.num 2 0 r1)
  exact ⟨r2.kp k3 (by decide), (k1.mono (by decide)).trans ((k2.mono (by decide)).trans (k3.mono (by decide)))⟩

theorem x_read {s0 : State} {l : Launch} {c : Cx} {g : Gh} {κ σ : Sg} {tb : Nat} (h : RL g κ σ) (h2 : σ 2 0 = nI tb) (htb : tb ≤ 32000) : KC s0 l M_X_read c [.ref (gA g 0)] g κ (RDP g (fRd σ tb)) := by
  refine k_inH (by decide) (by decide) rfl (Nat.le_of_ble_eq_true rfl) (fun hB => ?_)
  obtain ⟨hT0, hA0, kS⟩ := h.start h2 htb
  obtain ⟨v1, v2, v3, v4, v5, v6, v7, v8⟩ := r0_v σ ((tb + 7) / 8)
  have kf := r0_f σ ((tb + 7) / 8)
  obtain ⟨⟨hG, hC, A0, B0, hAB0, g2, g3⟩, ⟨tb', a1, a2, a3, a4⟩, h3, h4, h5, h6, h7⟩ := h
  have et : tb' = tb := (nI_eq (by omega) (by omega)).mp (a2.symm.trans h2)
  subst et
  have h11' : su (fFl κ 4 (nI 0) 8) 3 7 (nI 0) 1 1 = nI tb' := a1
  have hR : fRd σ tb' = fStr (fR0 σ ((tb' + 7) / 8)) := rfl
  have c3 : ∀ j, j ≠ 7 → kRd κ ((tb' + 7) / 8) 3 j = κ 3 j := fun j hj => by
    unfold kRd
    rw [su_k (by decide), su_k (by decide), su_k (by decide), su_j hj]
    exact sa_k (by decide)
  have k37 : kRd κ ((tb' + 7) / 8) 3 7 = nI 0 := by
    unfold kRd
    rw [su_k (by decide), su_k (by decide), su_k (by decide), su_at]
  have k11 : kRd κ ((tb' + 7) / 8) 1 1 = nI (8 * ((tb' + 7) / 8)) := by
    unfold kRd
    rw [su_j (by decide), su_j (by decide), su_at]
  have k32 : kRd κ ((tb' + 7) / 8) 3 2 = nI A0 := (c3 2 (by decide)).trans g2
  have k33 : kRd κ ((tb' + 7) / 8) 3 3 = nI B0 := (c3 3 (by decide)).trans g3
  have hC0 : CI g (kRd κ ((tb' + 7) / 8)) := fun q p hq hp => ⟨(hC q p hq hp).1, (kS _ (by simp; unfold idL; omega) 0).trans (hC q p hq hp).2⟩
  have hO0 : okO (fR0 σ ((tb' + 7) / 8)) := h5.kp kf (by decide)
  have hb0 : b01s (fR0 σ ((tb' + 7) / 8)) := hT0.1.2
  obtain ⟨rZ, kZ⟩ := stZ_f hT0.1
  have kA := tk_kp (tk_al 8 (stZ (fR0 σ ((tb' + 7) / 8))))
  have rA : okR (fAl 8 (stZ (fR0 σ ((tb' + 7) / 8)))) := okR.al 8 rZ
  have bA : b01s (fAl 8 (stZ (fR0 σ ((tb' + 7) / 8)))) := rA.2
  have fz : ∀ k, k ∉ [4, 6, 7, 8, 20, 21] → fAl 8 (stZ (fR0 σ ((tb' + 7) / 8))) k 0 = fR0 σ ((tb' + 7) / 8) k 0 := fun k hk => (kA k (fun z => hk (by simp at z ⊢; omega)) 0).trans (kZ k hk 0)
  have f2 := (fz 2 (by decide)).trans v1
  have f5 := fz 5 (by decide)
  have f12 := (fz 12 (by decide)).trans v5
  have f13 := (fz 13 (by decide)).trans v6
  have f22 := (fz 22 (by decide)).trans (v7 2 (by decide))
  have hOX : ∀ (A B : Nat) (κ' : Sg), okAB A B → okD (stZ (fR0 σ ((tb' + 7) / 8))) A B → kp [1, 3, 4] (kRd κ ((tb' + 7) / 8)) κ' → (∀ j, j ≠ 2 → j ≠ 3 → κ' 3 j = kRd κ ((tb' + 7) / 8) 3 j) → κ' 3 2 = nI A → κ' 3 3 = nI B → OX A B g κ' (fAl 8 (stZ (fR0 σ ((tb' + 7) / 8)))) := fun A B κ' hAB hD q1 q2 q3 q4 =>
    OX.start hG hAB (fun q p hq hp => ⟨(hC0 q p hq hp).1, (q1 _ (by simp; unfold idL; omega) 0).trans (hC0 q p hq hp).2⟩) q3 q4 ((q2 7 (by decide) (by decide)).trans k37) (hD.tk (tk_al 8 _)) ((hO0.kp kZ (by decide)).kp kA (by decide)) f12 f13 f22
  refine k_aload_n d_X_read_0 rfl rfl ?_
  refine k_getR d_X_read_1 fX_19 rfl (al_0 (by decide)) rfl rfl ?_
  refine k_callX (As := []) d_X_read_4 lX_44 mv_R_clear rfl (al_0 (by decide)) rfl rfl rfl (Nat.le_of_ble_eq_true rfl) (by decide) (r_clear) (fun v_4 g_4 κ_4 q_4 => ?_) (fun E_4 g_4 κ_4 q_4 => ?_)
  · skip
    obtain ⟨rfl2, rfl3, hκ⟩ := q_4
    obtain rfl := Sum.inl.inj rfl2
    obtain rfl := rfl3.symm
    obtain rfl := hκ
    refine k_aload_n d_X_read_7 rfl rfl ?_
    refine k_getR d_X_read_8 fX_10 rfl (al_0 (by decide)) rfl rfl ?_
    refine k_callX (As := []) d_X_read_11 lX_47 mv_T_rewind rfl (al_0 (by decide)) rfl rfl rfl (Nat.le_of_ble_eq_true rfl) (by decide) (t_rewind (tb := tb') ⟨h11', htb⟩) (fun v_11 g_11 κ_11 q_11 => ?_) (fun E_11 g_11 κ_11 q_11 => ?_)
    · skip
      obtain ⟨rfl2, rfl3, hκ⟩ := q_11
      obtain rfl := Sum.inl.inj rfl2
      obtain rfl := rfl3.symm
      obtain rfl := hκ
      refine k_st (κ2 := kRd κ ((tb' + 7) / 8)) rfl ?_
      refine k_aload_n d_X_read_14 rfl rfl ?_
      refine k_getR d_X_read_15 fX_28 rfl (al_0 (by decide)) rfl rfl ?_
      refine k_callX (As := []) d_X_read_18 lX_50 mv_S_readSize rfl (al_0 (by decide)) rfl rfl rfl (Nat.le_of_ble_eq_true rfl) (by decide) (s_readSize hT0 hA0) (fun v_18 g_18 κ_18 q_18 => ?_) (fun E_18 g_18 κ_18 q_18 => ?_)
      · skip
        obtain ⟨A, B, hAB, hD, hS, k5, k6, k7, k8, k9, hz⟩ := Or.resolve_left q_18 (fun z => nomatch z.1)
        obtain ⟨z1, z2, z3⟩ := Or.resolve_right hz (fun z => nomatch z.1)
        obtain rfl := Sum.inl.inj z1
        obtain rfl := z2.symm
        refine k_iconst (v := nI 0) d_X_read_21 (by decide) ?_
        refine k_istore_n d_X_read_22 rfl (Nat.le_of_ble_eq_true rfl) ?_
        have hX : OX A B g κ_18 (fAl 8 (stZ (fR0 σ ((tb' + 7) / 8)))) := hOX A B κ_18 hAB hD k5 k6 k7 k8
        rw [hR, hS]
        exact x_rd_l 1001 0 g κ_18 _ (by decide) (by have := at_nn rA; omega) ⟨hX, z3, k9⟩ ⟨0, f22, Nat.le_refl _⟩ bA f2
      · skip
        rcases q_18 with ⟨z1, z2, τ, t1, t2, t3, t4, t5, t6⟩ | ⟨A, B, hAB, hD, hS, k5, k6, k7, k8, k9, hz⟩
        · obtain rfl := Sum.inr.inj z1
          obtain rfl := z2
          have c3 : ∀ j, κ_18 3 j = kRd κ ((tb' + 7) / 8) 3 j := fun j => t4 3 (by decide) j
          have c37 : κ_18 3 7 = nI 0 := (c3 7).trans k37
          have hTA : TA κ_18 τ := (hA0.ck t4 (by decide)).cs t3 (by decide)
          have hC1 : CI (gx g) κ_18 := fun q p hq hp => ⟨(hC0 q p hq hp).1, (t4 _ (by simp; unfold idL; omega) 0).trans (hC0 q p hq hp).2⟩
          have t22 : τ 22 0 = nI 0 := (t3 22 (by decide) 0).trans (v7 2 (by decide))
          refine k_catch (x := ⟨14, 54, 57, 61⟩) rfl (by decide) (by decide) cX_61 w_castISE d_X_read_57 rfl (Nat.le_of_ble_eq_true rfl) ?_
          have hfin := x_rd_e (s0 := s0) (l := l) (c := c) (hB := hB) (g := gx g) (κ := κ_18) (σF := τ) (A := A0) (B := B0) (k := 0) (e := 8 * ((tb' + 7) / 8)) (y1 := none) hG hC1 hAB0 ((c3 2).trans k32) ((c3 3).trans k33) (fun z => by rw [c37] at z; exact absurd z (by decide)) ((hTA 2 (by decide)).trans t22) (by decide) (fun _ => Nat.zero_le _) (t6.trans k11) (by omega) (fun g' κ' h => by
            rcases h with ⟨q1, q2, q3⟩ | ⟨q1, q2⟩
            · subst q2
              subst q3
              refine ⟨RL.end0 hG hC1 hAB0 ((c3 2).trans k32) ((c3 3).trans k33) t5 hTA (hO0.kp t3 (by decide)) (b01_kp hb0 t3 (by decide)) t22 ((t3 2 (by decide) 0).trans v1), rfl, hTA 2 (by decide), fun _ _ => rfl, rfl⟩
            · rw [c37] at q1
              exact absurd q1 (by decide))
          rw [hR, t1]
          exact KQ.mono hfin (fun o g' κ' z => ⟨z.1, z.2.1, by rw [z.2.2.1]; exact Nat.le_refl _, z.2.2.2⟩)
        · obtain ⟨z1, z2, z3, z4, z5⟩ := Or.resolve_left hz (fun z => nomatch z.1)
          obtain rfl := Sum.inr.inj z1
          obtain rfl := z2
          have hX : OX A B (gx g) κ_18 (fAl 8 (stZ (fR0 σ ((tb' + 7) / 8)))) := hOX A B κ_18 hAB hD k5 k6 k7 k8
          rw [hR, hS, st_w z3]
          refine k_catch (x := ⟨14, 54, 57, 61⟩) rfl (by decide) (by decide) cX_61 w_castISE d_X_read_57 rfl (Nat.le_of_ble_eq_true rfl) ?_
          exact KQ.mono (x_rd_o hX ⟨k9, z5.trans (hT0.2.2.1.trans f5.symm)⟩ z4 rA bA f2 ⟨0, f22, Nat.le_refl _⟩ (by decide)) (fun o g' κ' z => ⟨z.1, z.2.1, by rw [z.2.2.1]; exact Nat.le_refl _, z.2.2.2⟩)
    · skip
      exact nomatch q_11.1
  · skip
    exact nomatch q_4.1

