/-! ===== the calls of the class, each beside the reference ===== -/

theorem app32 {κ : Sg} {v : Int32} {m : Nat} (hm : m ≤ 31968) : cApp κ v (nI 32) m = (nI (m + 32), cBs v 32 m κ) := by
  unfold cApp
  rw [if_neg (by decide), if_neg (by decide), if_pos (by rw [nI_add]; exact nI_le (by omega) (by decide))]
  rfl

theorem x_feed {s0 : State} {l : Launch} {c : Cx} {g : Gh} {κ : Sg} {σ : Sg} {tb : Nat} {a b c' d e : Int32} (h : RL g κ σ) (h2 : σ 2 0 = nI tb) (htb : tb ≤ 32000) : KC s0 l M_X_feed c [.ref (gA g 0), .int a, .int b, .int c', .int d, .int e] g κ (fun o g' κ' => o = .inl (some (.int (fFeed σ a b c' d e tb).1)) ∧ g' = g ∧ RL g κ' (fFeed σ a b c' d e tb).2) := by
  refine k_in (by decide) rfl rfl (Nat.le_of_ble_eq_true rfl) (fun hB => ?_)
  obtain ⟨a1, a4⟩ := h.tb h2 htb
  obtain ⟨nb, hnb⟩ : ∃ nb, (tb + 7) / 8 = nb := ⟨_, rfl⟩
  refine k_aload_n d_X_feed_0 rfl rfl ?_
  refine k_getR d_X_feed_1 fX_10 rfl (al_0 (by decide)) rfl rfl ?_
  refine k_calli (As := []) d_X_feed_4 lX_32 mv_T_byteCount rfl rfl (al_0 (by decide)) rfl rfl rfl (Nat.le_of_ble_eq_true rfl) (by decide) (t_byteCount (tb := tb) ⟨a1, htb⟩) ?_
  rw [hnb]
  refine k_istore d_X_feed_7 (Nat.le_of_ble_eq_true rfl) ?_
  refine k_iload d_X_feed_9 rfl ?_
  refine k_bipush (v := nI 20) d_X_feed_11 (by decide) ?_
  refine k_iaddN d_X_feed_13  ?_
  refine k_sipush (v := nI 4000) d_X_feed_14 (by decide) ?_
  refine k_icmp_le (tgt := 22) d_X_feed_17 (by decide) (fun c_17 => ?_) (fun c_17 => ?_)
  · skip
    have hn20 : nb + 20 ≤ 4000 := (nI_leI (by omega) (by decide)).mp c_17
    refine k_aload_n d_X_feed_22 rfl rfl ?_
    refine k_getR d_X_feed_23 fX_10 rfl (al_0 (by decide)) rfl rfl ?_
    refine k_iload d_X_feed_26 rfl ?_
    refine k_calli (As := [_]) d_X_feed_28 lX_36 mv_T_cut rfl rfl (al_0 (by decide)) rfl rfl rfl (Nat.le_of_ble_eq_true rfl) (by decide) (t_cut (n := nI nb) (tb := tb) ⟨a1, htb⟩) ?_
    have ec : cCut κ (nI nb) tb = (nI 1, su κ 1 1 (nI (8 * nb))) := by
      unfold cCut
      rw [hnb, if_neg (nI_pos (by omega)), if_pos (nI_le (Nat.le_refl _) (by omega)), pk_mul]
    rw [ec]
    dsimp only
    have w0 : wT (su κ 1 1 (nI (8 * nb))) (8 * nb) := ⟨su_at _ _ _ _, by omega⟩
    refine k_pop d_X_feed_31 rfl ?_
    refine k_aload_n d_X_feed_32 rfl rfl ?_
    refine k_getR d_X_feed_33 fX_10 rfl (al_0 (by decide)) rfl rfl ?_
    refine k_iload_n d_X_feed_36 rfl rfl ?_
    refine k_bipush (v := nI 32) d_X_feed_37 (by decide) ?_
    refine k_calli (As := [_, _]) d_X_feed_39 lX_40 mv_T_append rfl rfl (al_0 (by decide)) rfl rfl rfl (Nat.le_of_ble_eq_true rfl) (by decide) (t_append (n := nI 32) (tb := 8 * nb) w0) ?_
    rw [app32 (show 8 * nb ≤ 31968 by omega)]
    dsimp only
    have w1 := cBs_T a 32 (8 * nb) w0 (by omega)
    rw [show 8 * nb + 32 = 8 * (nb + 4) by omega] at w1
    refine k_pop d_X_feed_42 rfl ?_
    refine k_aload_n d_X_feed_43 rfl rfl ?_
    refine k_getR d_X_feed_44 fX_10 rfl (al_0 (by decide)) rfl rfl ?_
    refine k_iload_n d_X_feed_47 rfl rfl ?_
    refine k_bipush (v := nI 32) d_X_feed_48 (by decide) ?_
    refine k_calli (As := [_, _]) d_X_feed_50 lX_40 mv_T_append rfl rfl (al_0 (by decide)) rfl rfl rfl (Nat.le_of_ble_eq_true rfl) (by decide) (t_append (n := nI 32) (tb := 8 * (nb + 4)) w1) ?_
    rw [app32 (show 8 * (nb + 4) ≤ 31968 by omega)]
    dsimp only
    have w2 := cBs_T b 32 (8 * (nb + 4)) w1 (by omega)
    rw [show 8 * (nb + 4) + 32 = 8 * (nb + 8) by omega] at w2
    refine k_pop d_X_feed_53 rfl ?_
    refine k_aload_n d_X_feed_54 rfl rfl ?_
    refine k_getR d_X_feed_55 fX_10 rfl (al_0 (by decide)) rfl rfl ?_
    refine k_iload_n d_X_feed_58 rfl rfl ?_
    refine k_bipush (v := nI 32) d_X_feed_59 (by decide) ?_
    refine k_calli (As := [_, _]) d_X_feed_61 lX_40 mv_T_append rfl rfl (al_0 (by decide)) rfl rfl rfl (Nat.le_of_ble_eq_true rfl) (by decide) (t_append (n := nI 32) (tb := 8 * (nb + 8)) w2) ?_
    rw [app32 (show 8 * (nb + 8) ≤ 31968 by omega)]
    dsimp only
    have w3 := cBs_T c' 32 (8 * (nb + 8)) w2 (by omega)
    rw [show 8 * (nb + 8) + 32 = 8 * (nb + 12) by omega] at w3
    refine k_pop d_X_feed_64 rfl ?_
    refine k_aload_n d_X_feed_65 rfl rfl ?_
    refine k_getR d_X_feed_66 fX_10 rfl (al_0 (by decide)) rfl rfl ?_
    refine k_iload d_X_feed_69 rfl ?_
    refine k_bipush (v := nI 32) d_X_feed_71 (by decide) ?_
    refine k_calli (As := [_, _]) d_X_feed_73 lX_40 mv_T_append rfl rfl (al_0 (by decide)) rfl rfl rfl (Nat.le_of_ble_eq_true rfl) (by decide) (t_append (n := nI 32) (tb := 8 * (nb + 12)) w3) ?_
    rw [app32 (show 8 * (nb + 12) ≤ 31968 by omega)]
    dsimp only
    have w4 := cBs_T d 32 (8 * (nb + 12)) w3 (by omega)
    rw [show 8 * (nb + 12) + 32 = 8 * (nb + 16) by omega] at w4
    refine k_pop d_X_feed_76 rfl ?_
    refine k_aload_n d_X_feed_77 rfl rfl ?_
    refine k_getR d_X_feed_78 fX_10 rfl (al_0 (by decide)) rfl rfl ?_
    refine k_iload d_X_feed_81 rfl ?_
    refine k_bipush (v := nI 32) d_X_feed_83 (by decide) ?_
    refine k_calli (As := [_, _]) d_X_feed_85 lX_40 mv_T_append rfl rfl (al_0 (by decide)) rfl rfl rfl (Nat.le_of_ble_eq_true rfl) (by decide) (t_append (n := nI 32) (tb := 8 * (nb + 16)) w4) ?_
    rw [app32 (show 8 * (nb + 16) ≤ 31968 by omega)]
    dsimp only
    have w5 := cBs_T e 32 (8 * (nb + 16)) w4 (by omega)
    rw [show 8 * (nb + 16) + 32 = 8 * (nb + 20) by omega] at w5
    refine k_pop d_X_feed_88 rfl ?_
    refine k_aload_n d_X_feed_89 rfl rfl ?_
    refine k_getR d_X_feed_90 fX_10 rfl (al_0 (by decide)) rfl rfl ?_
    refine k_calli (As := []) d_X_feed_93 lX_32 mv_T_byteCount rfl rfl (al_0 (by decide)) rfl rfl rfl (Nat.le_of_ble_eq_true rfl) (by decide) (t_byteCount (tb := 8 * (nb + 20)) w5) ?_
    refine k_iret d_X_feed_96 rfl rfl ?_
    have hn : (tb + 7) / 8 + 20 ≤ 4000 := by rw [hnb]; exact hn20
    obtain ⟨f1, f2⟩ := h.feed (a := a) (b := b) (c := c') (d := d) (e := e) h2 htb hn
    have e9 : (fFeed σ a b c' d e tb).1 = nI ((tb + 7) / 8 + 20) := by
      unfold fFeed
      rw [if_pos hn]
    rw [e9, hnb] 
    rw [hnb] at f1
    exact ⟨by rw [show (8 * (nb + 20) + 7) / 8 = nb + 20 by omega], rfl, f1⟩
  · skip
    refine k_iconst (v := (-1)) d_X_feed_20 (by decide) ?_
    refine k_iret d_X_feed_21 rfl rfl ?_
    have hn : ¬ (tb + 7) / 8 + 20 ≤ 4000 := by
      rw [hnb]
      exact fun z => c_17 (nI_le z (by decide))
    have e9 : fFeed σ a b c' d e tb = (-1, su σ 0 0 (nI 0)) := if_neg hn
    rw [e9]
    exact ⟨rfl, rfl, h.q⟩

theorem x_end {s0 : State} {l : Launch} {c : Cx} {g : Gh} {κ : Sg} {σ : Sg} {tb : Nat} {n : Int32} (h : RL g κ σ) (h2 : σ 2 0 = nI tb) (htb : tb ≤ 32000) : KC s0 l M_X_end c [.ref (gA g 0), .int n] g κ (fun o g' κ' => o = .inl (some (.int (fEnd σ n tb).1)) ∧ g' = g ∧ RL g κ' (fEnd σ n tb).2) := by
  refine k_in (by decide) rfl rfl (Nat.le_of_ble_eq_true rfl) (fun hB => ?_)
  obtain ⟨a1, a4⟩ := h.tb h2 htb
  obtain ⟨e1, e2⟩ := h.end (n := n) h2 htb
  have hb9 : (cCut κ n tb).1 = nI 0 ∨ (cCut κ n tb).1 = nI 1 := by
    unfold cCut
    split
    · exact Or.inl rfl
    · split
      · exact Or.inr rfl
      · exact Or.inl rfl
  refine k_aload_n d_X_end_0 rfl rfl ?_
  refine k_getR d_X_end_1 fX_10 rfl (al_0 (by decide)) rfl rfl ?_
  refine k_iload_n d_X_end_4 rfl rfl ?_
  refine k_calli (As := [_]) d_X_end_5 lX_36 mv_T_cut rfl rfl (al_0 (by decide)) rfl rfl rfl (Nat.le_of_ble_eq_true rfl) (by decide) (t_cut (n := n) (tb := tb) ⟨a1, htb⟩) ?_
  refine k_iret d_X_end_8 rfl (nar01 hb9) ?_
  exact ⟨by rw [e1], rfl, e2⟩

theorem x_bits {s0 : State} {l : Launch} {c : Cx} {g : Gh} {κ : Sg} {σ : Sg} {tb : Nat} {v n : Int32} (h : RL g κ σ) (h2 : σ 2 0 = nI tb) (htb : tb ≤ 32000) : KC s0 l M_X_bits c [.ref (gA g 0), .int v, .int n] g κ (fun o g' κ' => o = .inl (some (.int (fBits σ v n tb).1)) ∧ g' = g ∧ RL g κ' (fBits σ v n tb).2) := by
  refine k_in (by decide) rfl rfl (Nat.le_of_ble_eq_true rfl) (fun hB => ?_)
  obtain ⟨a1, a4⟩ := h.tb h2 htb
  obtain ⟨e1, e2⟩ := h.bits (v := v) (n := n) h2 htb
  refine k_aload_n d_X_bits_0 rfl rfl ?_
  refine k_getR d_X_bits_1 fX_10 rfl (al_0 (by decide)) rfl rfl ?_
  refine k_iload_n d_X_bits_4 rfl rfl ?_
  refine k_iload_n d_X_bits_5 rfl rfl ?_
  refine k_calli (As := [_, _]) d_X_bits_6 lX_40 mv_T_append rfl rfl (al_0 (by decide)) rfl rfl rfl (Nat.le_of_ble_eq_true rfl) (by decide) (t_append (v := v) (n := n) (tb := tb) ⟨a1, htb⟩) ?_
  refine k_iret d_X_bits_9 rfl rfl ?_
  exact ⟨by rw [e1], rfl, e2⟩

theorem x_wrong {s0 : State} {l : Launch} {c : Cx} {g : Gh} {κ : Sg} {σ : Sg} (h : RL g κ σ) : KC s0 l M_X_wrong c [.ref (gA g 0)] g κ (fun o g' κ' => o = .inl (some (.int (σ 6 0))) ∧ g' = g ∧ κ' = κ) := by
  refine k_in (by decide) rfl rfl (Nat.le_of_ble_eq_true rfl) (fun hB => ?_)
  refine k_aload_n d_X_wrong_0 rfl rfl ?_
  refine k_getR d_X_wrong_1 fX_10 rfl (al_0 (by decide)) rfl rfl ?_
  refine k_getE d_X_wrong_4 fX_70 rfl (al_0 (by decide)) rfl h.2.2.1 ?_
  refine k_iret d_X_wrong_7 rfl rfl ?_
  exact ⟨rfl, rfl, rfl⟩

theorem x_look {s0 : State} {l : Launch} {c : Cx} {g : Gh} {κ : Sg} {σ : Sg} {w : Int32} (h : RL g κ σ) : KC s0 l M_X_look c [.ref (gA g 0), .int w] g κ (fun o g' κ' => κ' = κ ∧ (((fLk σ w).2 0 0 = nI 0 ∧ o = .inl (some (.int (fLk σ w).1)) ∧ g' = g) ∨ ((fLk σ w).2 0 0 = nI 1 ∧ o = .inr NSE ∧ g' = gx g))) := by
  refine k_in (by decide) rfl rfl (Nat.le_of_ble_eq_true rfl) (fun hB => ?_)
  refine k_iload_n d_X_look_0 rfl rfl ?_
  refine k_if_lt (tgt := 16) d_X_look_1 (by decide) (fun c_1 => ?_) (fun c_1 => ?_)
  · skip
    have c_look : w < 0 ∨ nI 8 ≤ w := Or.inl c_1
    refine k_throw d_X_look_16 d_X_look_19 d_X_look_20 d_X_look_23 (by decide) cX_74 w_iniNSE w_atNSE rfl (Nat.le_of_ble_eq_true rfl) (by decide) ?_
    rcases c_look with z | z
    · have e9 : fLk σ w = (nI 0, su σ 0 0 (nI 1)) := if_pos z
      rw [e9]
      exact ⟨rfl, Or.inr ⟨rfl, rfl, rfl⟩⟩
    · have e9 : fLk σ w = (nI 0, su σ 0 0 (nI 1)) := by
        unfold fLk
        by_cases q : w < 0
        · rw [if_pos q]
        · rw [if_neg q, if_pos z]
      rw [e9]
      exact ⟨rfl, Or.inr ⟨rfl, rfl, rfl⟩⟩
  · skip
    refine k_iload_n d_X_look_4 rfl rfl ?_
    refine k_aload_n d_X_look_5 rfl rfl ?_
    refine k_getR d_X_look_6 fX_19 rfl (al_0 (by decide)) rfl rfl ?_
    refine k_getR d_X_look_9 fX_66 rfl (al_0 (by decide)) rfl rfl ?_
    refine k_alen d_X_look_12 (al_0 (by decide)) rfl (show lnI g 4 = 8 from rfl) ?_
    refine k_icmp_lt (tgt := 24) d_X_look_13 (by decide) (fun c_13 => ?_) (fun c_13 => ?_)
    · skip
      obtain ⟨j, hj, rfl⟩ : ∃ j, j < 8 ∧ w = nI j := by
        obtain ⟨j, hj, rfl⟩ := nI_of c_1
        exact ⟨j, (nI_ltI hj (by decide)).mp c_13, rfl⟩
      have hvp : vp_in (nI j) (lnI g 4) := show vp_in (nI j) 8 from vp_in_nI hj (by decide)
      have e9 : fLk σ (nI j) = (σ (20 + j) 0, su σ 0 0 (nI 0)) := by
        unfold fLk
        rw [if_neg c_1, if_neg (nI_ge hj (by decide)), nI_clamp (by omega)]
      refine k_aload_n d_X_look_24 rfl rfl ?_
      refine k_getR d_X_look_25 fX_19 rfl (al_0 (by decide)) rfl rfl ?_
      refine k_getR d_X_look_28 fX_66 rfl (al_0 (by decide)) rfl rfl ?_
      refine k_iload_n d_X_look_31 rfl rfl ?_
      refine k_iaload d_X_look_32 (al_0 (by decide)) rfl hvp ?_
      refine k_iret d_X_look_33 rfl rfl ?_
      rw [e9]
      refine ⟨rfl, Or.inl ⟨rfl, ?_, rfl⟩⟩
      rw [nI_clamp (by omega), h.2.2.2.1 j hj]
    · skip
      have c_look : w < 0 ∨ nI 8 ≤ w := Or.inr (Int32.not_lt.mp c_13)
      refine k_throw d_X_look_16 d_X_look_19 d_X_look_20 d_X_look_23 (by decide) cX_74 w_iniNSE w_atNSE rfl (Nat.le_of_ble_eq_true rfl) (by decide) ?_
      rcases c_look with z | z
      · have e9 : fLk σ w = (nI 0, su σ 0 0 (nI 1)) := if_pos z
        rw [e9]
        exact ⟨rfl, Or.inr ⟨rfl, rfl, rfl⟩⟩
      · have e9 : fLk σ w = (nI 0, su σ 0 0 (nI 1)) := by
          unfold fLk
          by_cases q : w < 0
          · rw [if_pos q]
          · rw [if_neg q, if_pos z]
        rw [e9]
        exact ⟨rfl, Or.inr ⟨rfl, rfl, rfl⟩⟩

