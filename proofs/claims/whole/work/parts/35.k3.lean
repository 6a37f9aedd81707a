/-! ===== unsigned, signed; writing ===== -/
def uE (most b : Int32) (t : Int32 × Sg) : Int32 × Sg := (t.1, if 0 ≤ t.2 6 0 then t.2 else if t.1 ≤ most then t.2 else fW t.2 b)
theorem uE_w {most b : Int32} {t : Int32 × Sg} (w : 0 ≤ t.2 6 0) : (uE most b t).2 = t.2 := if_pos w
theorem uE_ok {most b : Int32} {t : Int32 × Sg} (w : ¬ 0 ≤ t.2 6 0) (h : t.1 ≤ most) : (uE most b t).2 = t.2 := (if_neg w).trans (if_pos h)
theorem uE_bad {most b : Int32} {t : Int32 × Sg} (w : t.2 6 0 = -1) (h : ¬ t.1 ≤ most) : (uE most b t).2 = su t.2 6 0 b := (if_neg (by rw [w]; decide)).trans ((if_neg h).trans (fW_1 w))
theorem tk_uE {most b : Int32} {t : Int32 × Sg} {σ : Sg} (h : tk σ t.2) : tk σ (uE most b t).2 := by
  unfold uE
  split
  · exact h
  · split
    · exact h
    · exact h.trans (tk_fW _ _)
theorem okR.uE {most b : Int32} {t : Int32 × Sg} (h : okR t.2) : okR (uE most b t).2 := by
  unfold Jvm.Pilot.@@N@@.uE
  split
  · exact h
  · split
    · exact h
    · exact h.fW
/-- the tail of unsigned: the number's bits -/
theorem t_uns_2 {s0 : State} {l : Launch} {c : Cx} {hB : Mem} {g : Gh} {most b : Int32} {z : Nat} (hz : z ≤ 20) (hb : 0 ≤ b) : ∀ (n i : Nat) (v : Int32) (κ σ : Sg), TRel κ σ → i + n = z → KQ s0 l M_T_unsigned c hB 48 [some (.ref (gA g 1)), some (.int most), some (.int b), some (.int (nI z)), some (.int v), some (.int (nI i))] [] g κ (RdP g κ (uE most b (nI 1 <<< (nI z &&& 31) - nI 1 + (fNum n v σ).1, (fNum n v σ).2)).2 (some (.int (nI 1 <<< (nI z &&& 31) - nI 1 + (fNum n v σ).1)))) := by
  intro n
  induction n with
  | zero =>
    intro i v κ σ hT hi
    refine k_iload d_T_unsigned_48 rfl ?_
    refine k_iload_n d_T_unsigned_50 rfl rfl ?_
    refine k_icmp_ge (tgt := 71) d_T_unsigned_51 (by decide) (fun c_51 => ?_) (fun c_51 => ?_)
    · skip
      refine k_iconst (v := nI 1) d_T_unsigned_71 (by decide) ?_
      refine k_iload_n d_T_unsigned_72 rfl rfl ?_
      refine k_ishl d_T_unsigned_73 ?_
      refine k_iconst (v := nI 1) d_T_unsigned_74 (by decide) ?_
      refine k_isub d_T_unsigned_75 ?_
      refine k_iload d_T_unsigned_76 rfl ?_
      refine k_iadd d_T_unsigned_78 ?_
      refine k_istore d_T_unsigned_79 (Nat.le_of_ble_eq_true rfl) ?_
      refine k_iload d_T_unsigned_81 rfl ?_
      refine k_iload_n d_T_unsigned_83 rfl rfl ?_
      refine k_icmp_le (tgt := 92) d_T_unsigned_84 (by decide) (fun c_84 => ?_) (fun c_84 => ?_)
      · skip
        refine k_iload d_T_unsigned_92 rfl ?_
        refine k_iret d_T_unsigned_94 rfl rfl ?_
        have e1 : (uE most b (nI 1 <<< (nI z &&& 31) - nI 1 + (fNum 0 v σ).1, (fNum 0 v σ).2)).2 = σ := uE_ok (t := (nI 1 <<< (nI z &&& 31) - nI 1 + (fNum 0 v σ).1, (fNum 0 v σ).2)) hT.w c_84
        refine Or.inl ⟨by rw [e1]; exact hT.2.2.2.1, rfl, rfl, ?_⟩
        rw [e1, ← hT.2.1]
        exact (su_self _ _ _).symm
      · skip
        refine k_aload_n d_T_unsigned_87 rfl rfl ?_
        refine k_iload_n d_T_unsigned_88 rfl rfl ?_
        refine k_call (As := [_]) d_T_unsigned_89 lT_47 mv_T_failAt rfl rfl (al_0 (by decide)) rfl rfl rfl (Nat.le_of_ble_eq_true rfl) (by decide) (t_failAt) (fun v_89 g_89 κ_89 q_89 => absurd q_89.1 (fun h9 => nomatch h9)) (fun E_89 g_89 κ_89 q_89 => ?_)
        obtain ⟨rE_89, rfl, rfl⟩ := q_89
        obtain rfl := Sum.inr.inj rE_89
        have e1 : (uE most b (nI 1 <<< (nI z &&& 31) - nI 1 + (fNum 0 v σ).1, (fNum 0 v σ).2)).2 = su σ 6 0 b := uE_bad (t := (nI 1 <<< (nI z &&& 31) - nI 1 + (fNum 0 v σ).1, (fNum 0 v σ).2)) hT.2.2.2.1 c_84
        refine Or.inr ⟨?_, rfl, rfl, κ 1 2, ?_⟩
        · rw [e1, su_at]
          exact hb
        · rw [e1, su_at, su_self]
    · exact absurd (nI_le (show z ≤ i by omega) (by omega)) c_51
  | succ n ih =>
    intro i v κ σ hT hi
    unfold fNum
    refine k_iload d_T_unsigned_48 rfl ?_
    refine k_iload_n d_T_unsigned_50 rfl rfl ?_
    refine k_icmp_ge (tgt := 71) d_T_unsigned_51 (by decide) (fun c_51 => ?_) (fun c_51 => ?_)
    · exact absurd c_51 (nI_ge (by omega) (by omega))
    · skip
      refine k_iconst (v := nI 2) d_T_unsigned_54 (by decide) ?_
      refine k_iload d_T_unsigned_55 rfl ?_
      refine k_imul d_T_unsigned_57 ?_
      refine k_aload_n d_T_unsigned_58 rfl rfl ?_
      refine k_callT (As := []) d_T_unsigned_59 lT_40 mv_T_next rfl rfl (al_0 (by decide)) rfl rfl rfl (Nat.le_of_ble_eq_true rfl) (by decide) (t_next hT) (fun w_59 => ?_) (fun w_59 x_59 => ?_)
      · skip
        refine k_iadd d_T_unsigned_62 ?_
        refine k_istore d_T_unsigned_63 (Nat.le_of_ble_eq_true rfl) ?_
        first | refine k_iinc1 d_T_unsigned_65 rfl ?_ | refine k_iinc d_T_unsigned_65 rfl ?_
        refine k_goto (tgt := 48) d_T_unsigned_68 (by decide) ?_
        exact (ih (i + 1) _ _ _ (hT.next (tk_bit σ) hT.1.bit w_59) (by omega)).mono (fun _ _ _ q => q.up)
      · skip
        exact RdP.thr w_59 ((uE_w (by rw [num_w w_59]; exact w_59)).trans (num_w w_59 _ _)) rfl
theorem bit_0w {κ σ : Sg} (hT : TRel κ σ) (w : 0 ≤ (fBit σ).2 6 0) : (fBit σ).1 = 0 := by
  rcases bit_n hT with ⟨p, e, a1, a2, a3, a4, a5⟩ | ⟨e, a1, a2, a3, a4⟩
  · rw [a5] at w
    exact absurd w hT.w
  · rw [a4]
theorem t_uns_1 {s0 : State} {l : Launch} {c : Cx} {hB : Mem} {g : Gh} {most b : Int32} (hb : 0 ≤ b) : ∀ (f z : Nat) (κ σ : Sg), TRel κ σ → z + f = 22 → z ≤ 20 → KQ s0 l M_T_unsigned c hB 7 [some (.ref (gA g 1)), some (.int most), some (.int b), some (.int (nI z)), none, none] [] g κ (RdP g κ (uE most b (fU f z σ)).2 (some (.int (fU f z σ).1))) := by
  intro f
  induction f with
  | zero => intro z κ σ hT hf hz; omega
  | succ f ih =>
    intro z κ σ hT hf hz
    unfold fU
    rw [if_neg hT.w]
    refine k_iload_n d_T_unsigned_7 rfl rfl ?_
    refine k_bipush (v := nI 20) d_T_unsigned_8 (by decide) ?_
    refine k_icmp_gt (tgt := 26) d_T_unsigned_10 (by decide) (fun c_10 => ?_) (fun c_10 => ?_)
    · exact absurd c_10 (nI_nlt hz (by decide))
    · skip
      refine k_aload_n d_T_unsigned_13 rfl rfl ?_
      refine k_callT (As := []) d_T_unsigned_14 lT_40 mv_T_next rfl rfl (al_0 (by decide)) rfl rfl rfl (Nat.le_of_ble_eq_true rfl) (by decide) (t_next hT) (fun w_14 => ?_) (fun w_14 x_14 => ?_)
      · skip
        have hw14 : ¬ 0 ≤ (fBit σ).2 6 0 := by rw [w_14]; decide
        have hT2 := hT.next (tk_bit σ) hT.1.bit w_14
        refine k_if_ne (tgt := 26) d_T_unsigned_17 (by decide) (fun c_17 => ?_) (fun c_17 => ?_)
        · skip
          refine k_iload_n d_T_unsigned_26 rfl rfl ?_
          refine k_bipush (v := nI 20) d_T_unsigned_27 (by decide) ?_
          refine k_icmp_le (tgt := 42) d_T_unsigned_29 (by decide) (fun c_29 => ?_) (fun c_29 => ?_)
          · skip
            refine k_iconst (v := nI 0) d_T_unsigned_42 (by decide) ?_
            refine k_istore d_T_unsigned_43 (Nat.le_of_ble_eq_true rfl) ?_
            refine k_iconst (v := nI 0) d_T_unsigned_45 (by decide) ?_
            refine k_istore d_T_unsigned_46 (Nat.le_of_ble_eq_true rfl) ?_
            rw [if_neg c_17]
            have e1 : fUt z (fBit σ).2 = (nI 1 <<< (nI z &&& 31) - nI 1 + (fNum z (nI 0) (fBit σ).2).1, (fNum z (nI 0) (fBit σ).2).2) := if_neg hw14
            rw [e1]
            exact (t_uns_2 hz hb z 0 (nI 0) _ _ hT2 (by omega)).mono (fun _ _ _ q => q.up)
          · exact absurd (nI_le hz (by decide)) c_29
        · skip
          first | refine k_iinc1 d_T_unsigned_20 rfl ?_ | refine k_iinc d_T_unsigned_20 rfl ?_
          refine k_goto (tgt := 7) d_T_unsigned_23 (by decide) ?_
          rw [if_pos c_17, if_neg hw14]
          by_cases hz1 : z + 1 = 21
          · rw [if_pos hz1]
            have e0 : z = 20 := by omega
            subst e0
            have hp := at_pos hT.1.bit (by rw [bit_a hT.1.1 hT.w hw14]; have := at_nn hT.1; omega)
            have e2 : fW (fBit σ).2 ((fBit σ).2 4 0 - nI 1) = su (fBit σ).2 6 0 ((fBit σ).2 4 0 - nI 1) := fW_1 w_14
            have e1 : (fU f (20 + 1) (fW (fBit σ).2 ((fBit σ).2 4 0 - nI 1))).2 = su (fBit σ).2 6 0 ((fBit σ).2 4 0 - nI 1) := by
              have hf1 : f = 1 := by omega
              subst hf1
              unfold fU
              rw [e2, if_pos (by rw [su_at]; exact hp)]
              unfold fUt
              rw [if_pos (by rw [su_at]; exact hp)]
            refine k_iload_n d_T_unsigned_7 rfl rfl ?_
            refine k_bipush (v := nI 20) d_T_unsigned_8 (by decide) ?_
            refine k_icmp_gt (tgt := 26) d_T_unsigned_10 (by decide) (fun c_10 => ?_) (fun c_10 => ?_)
            · skip
              refine k_iload_n d_T_unsigned_26 rfl rfl ?_
              refine k_bipush (v := nI 20) d_T_unsigned_27 (by decide) ?_
              refine k_icmp_le (tgt := 42) d_T_unsigned_29 (by decide) (fun c_29 => ?_) (fun c_29 => ?_)
              · exact absurd c_29 (by decide)
              · skip
                refine k_aload_n d_T_unsigned_32 rfl rfl ?_
                refine k_aload_n d_T_unsigned_33 rfl rfl ?_
                refine k_get d_T_unsigned_34 fT_34 rfl (al_0 (by decide)) rfl ?_
                refine k_iconst (v := nI 1) d_T_unsigned_37 (by decide) ?_
                refine k_isub d_T_unsigned_38 ?_
                refine k_call (As := [_]) d_T_unsigned_39 lT_47 mv_T_failAt rfl rfl (al_0 (by decide)) rfl rfl rfl (Nat.le_of_ble_eq_true rfl) (by decide) (t_failAt) (fun v_39 g_39 κ_39 q_39 => absurd q_39.1 (fun h9 => nomatch h9)) (fun E_39 g_39 κ_39 q_39 => ?_)
                obtain ⟨rE_39, rfl, rfl⟩ := q_39
                obtain rfl := Sum.inr.inj rE_39
                refine Or.inr ⟨?_, rfl, rfl, (fBit σ).2 4 0, ?_⟩
                · rw [uE_w (by rw [e1, su_at]; exact hp), e1, su_at]
                  exact hp
                · rw [uE_w (by rw [e1, su_at]; exact hp), e1, su_at]
                  rfl
            · exact absurd (show nI 20 < nI (20 + 1) by decide) c_10
          · rw [if_neg hz1]
            exact (ih (z + 1) _ _ hT2 (by omega) (by omega)).mono (fun _ _ _ q => q.up)
      · skip
        rw [if_pos (bit_0w hT w_14), if_pos w_14]
        exact RdP.thr w_14 (uE_w w_14) rfl
theorem t_unsigned {s0 : State} {l : Launch} {c : Cx} {g : Gh} {κ : Sg} {σ : Sg} {most : Int32} (hT : TRel κ σ) : KC s0 l M_T_unsigned c [.ref (gA g 1), .int most] g κ (RdP g κ (uE most (σ 4 0) (fU 22 0 σ)).2 (some (.int (fU 22 0 σ).1))) := by
  refine k_in (by decide) rfl rfl (Nat.le_of_ble_eq_true rfl) (fun hB => ?_)
  refine k_aload_n d_T_unsigned_0 rfl rfl ?_
  refine k_getE d_T_unsigned_1 fT_34 rfl (al_0 (by decide)) rfl hT.2.1 ?_
  refine k_istore_n d_T_unsigned_4 rfl (Nat.le_of_ble_eq_true rfl) ?_
  refine k_iconst (v := nI 0) d_T_unsigned_5 (by decide) ?_
  refine k_istore_n d_T_unsigned_6 rfl (Nat.le_of_ble_eq_true rfl) ?_
  exact t_uns_1 (at_0 hT.1) 22 0 κ σ hT (by decide) (by decide)

theorem u_max : ∀ (f z : Nat) (σ : Sg), okR σ → ¬ 0 ≤ σ 6 0 → z + f = 22 → z ≤ 20 → ¬ 0 ≤ (fU f z σ).2 6 0 → ∃ b, (fU f z σ).1 = nI b ∧ b ≤ 2097150
  | 0, z, σ, _, _, h, h2, _ => by omega
  | f + 1, z, σ, hR, hw, hf, hz, h => by
    unfold fU at h ⊢
    rw [if_neg hw] at h ⊢
    by_cases h1 : (fBit σ).1 = 0
    · rw [if_pos h1] at h ⊢
      by_cases h2 : 0 ≤ (fBit σ).2 6 0
      · rw [if_pos h2] at h; exact absurd h2 h
      · rw [if_neg h2] at h ⊢
        by_cases h3 : z + 1 = 21
        · rw [if_pos h3] at h
          exfalso
          have h4 := wrong_in hR.1 hw h2
          have hf1 : f = 1 := by omega
          subst hf1
          apply h
          unfold fU
          rw [if_pos h4]
          unfold fUt
          rw [if_pos h4]
          exact h4
        · rw [if_neg h3] at h ⊢
          exact u_max f (z + 1) _ hR.bit h2 (by omega) (by omega) h
    · rw [if_neg h1] at h ⊢
      unfold fUt
      split
      · exact ⟨0, rfl, by decide⟩
      · obtain ⟨b, b1, b2, b3⟩ := num_rng z 0 hR.bit
        have h5 : 1 ≤ 2 ^ z := Nat.one_le_two_pow
        have h6 : 2 ^ z ≤ 2 ^ 20 := Nat.pow_le_pow_right (by decide) hz
        refine ⟨2 ^ z - 1 + b, ?_, ?_⟩
        · have e0 : (0 : Int32) = nI 0 := rfl
          rw [shl1 z (by omega), pk_sub h5]
          show nI (2 ^ z - 1) + (fNum z (0 : Int32) (fBit σ).2).1 = _
          rw [e0, b1, nI_add]
        · rw [Nat.zero_add, Nat.one_mul] at b3
          omega
def fSs (lo hi : Int32) (σ : Sg) : Sg := if 0 ≤ (fU 22 0 σ).2 6 0 then (fU 22 0 σ).2 else if sgnU (fU 22 0 σ).1 < lo then fW (fU 22 0 σ).2 (σ 4 0) else if sgnU (fU 22 0 σ).1 ≤ hi then (fU 22 0 σ).2 else fW (fU 22 0 σ).2 (σ 4 0)
theorem tk_ss (lo hi : Int32) (σ : Sg) : tk σ (fSs lo hi σ) := by
  unfold fSs
  split
  · exact tk_u 22 0 σ
  · split
    · exact (tk_u 22 0 σ).trans (tk_fW _ _)
    · split
      · exact tk_u 22 0 σ
      · exact (tk_u 22 0 σ).trans (tk_fW _ _)
theorem okR.ss {lo hi : Int32} {σ : Sg} (h : okR σ) : okR (fSs lo hi σ) := by
  unfold fSs
  split
  · exact h.u 22 0
  · split
    · exact (h.u 22 0).fW
    · split
      · exact h.u 22 0
      · exact (h.u 22 0).fW
theorem t_signed {s0 : State} {l : Launch} {c : Cx} {g : Gh} {κ : Sg} {σ : Sg} {lo hi : Int32} (hT : TRel κ σ) : KC s0 l M_T_signed c [.ref (gA g 1), .int lo, .int hi] g κ (RdP g κ (fSs lo hi σ) (some (.int (sgnU (fU 22 0 σ).1)))) := by
  refine k_in (by decide) rfl rfl (Nat.le_of_ble_eq_true rfl) (fun hB => ?_)
  have hmx : ¬ 0 ≤ (fU 22 0 σ).2 6 0 → ∃ b, (fU 22 0 σ).1 = nI b ∧ b ≤ 2097150 := u_max 22 0 σ hT.1 hT.w (by decide) (by decide)
  refine k_aload_n d_T_signed_0 rfl rfl ?_
  refine k_getE d_T_signed_1 fT_34 rfl (al_0 (by decide)) rfl hT.2.1 ?_
  refine k_istore_n d_T_signed_4 rfl (Nat.le_of_ble_eq_true rfl) ?_
  refine k_aload_n d_T_signed_5 rfl rfl ?_
  refine k_ldc d_T_signed_6 kT_54 ?_
  refine k_callT (As := [_]) d_T_signed_8 lT_55 mv_T_unsigned rfl rfl (al_0 (by decide)) rfl rfl rfl (Nat.le_of_ble_eq_true rfl) (by decide) (t_unsigned hT) (fun w_8 => ?_) (fun w_8 x_8 => ?_)
  · skip
    have hw : ¬ 0 ≤ (fU 22 0 σ).2 6 0 := by
      intro h9
      rw [uE_w h9] at w_8
      rw [w_8] at h9
      exact absurd h9 (by decide)
    obtain ⟨b, b1, b2⟩ := hmx hw
    have hu : (uE 2097150 (σ 4 0) (fU 22 0 σ)).2 = (fU 22 0 σ).2 := by
      unfold uE
      rw [if_neg hw, if_pos (by rw [b1]; exact nI_le b2 (by decide))]
    have h6 : (fU 22 0 σ).2 6 0 = -1 := by rw [hu] at w_8; exact w_8
    have ha1 : (fU 22 0 σ).1 &&& nI 1 = nI (b % 2) := by rw [b1]; exact pk_andN (by omega) 1 (by decide)
    have hr1 : (fU 22 0 σ).1 - (fU 22 0 σ).1 / nI 2 * nI 2 = nI (b % 2) := by rw [b1]; exact pk_rem (by omega) (by decide) (by decide)
    refine k_istore d_T_signed_11 (Nat.le_of_ble_eq_true rfl) ?_
    refine k_iload d_T_signed_13 rfl ?_
    refine k_iconst (v := nI 1) d_T_signed_15 (by decide) ?_
    refine k_iand d_T_signed_16 ?_
    refine k_iconst (v := nI 1) d_T_signed_17 (by decide) ?_
    refine k_icmp_ne (tgt := 30) d_T_signed_18 (by decide) (fun c_18 => ?_) (fun c_18 => ?_)
    · skip
      refine k_iload d_T_signed_30 rfl ?_
      refine k_iconst (v := nI 2) d_T_signed_32 (by decide) ?_
      refine k_idiv d_T_signed_33 (by decide) ?_
      refine k_ineg d_T_signed_34 ?_
      have hsg : sgnU (fU 22 0 σ).1 = -((fU 22 0 σ).1 / nI 2) := by
        unfold sgnU
        rw [hr1]
        rw [ha1] at c_18
        first
          | rw [if_pos c_18]
          | rw [if_neg c_18]
      refine k_istore d_T_signed_35 (Nat.le_of_ble_eq_true rfl) ?_
      refine k_iload d_T_signed_37 rfl ?_
      refine k_iload_n d_T_signed_39 rfl rfl ?_
      refine k_icmp_lt (tgt := 49) d_T_signed_40 (by decide) (fun c_40 => ?_) (fun c_40 => ?_)
      · skip
        refine k_aload_n d_T_signed_49 rfl rfl ?_
        refine k_iload_n d_T_signed_50 rfl rfl ?_
        refine k_call (As := [_]) d_T_signed_51 lT_47 mv_T_failAt rfl rfl (al_0 (by decide)) rfl rfl rfl (Nat.le_of_ble_eq_true rfl) (by decide) (t_failAt) (fun v_51 g_51 κ_51 q_51 => absurd q_51.1 (fun h9 => nomatch h9)) (fun E_51 g_51 κ_51 q_51 => ?_)
        obtain ⟨rE_51, rfl, rfl⟩ := q_51
        obtain rfl := Sum.inr.inj rE_51
        have e1 : fSs lo hi σ = su (fU 22 0 σ).2 6 0 (σ 4 0) := by
          unfold fSs
          rw [if_neg hw, hsg]
          first
            | (rw [if_pos c_40]; exact fW_1 h6)
            | (rw [if_neg c_40, if_neg c_46]; exact fW_1 h6)
        refine Or.inr ⟨?_, rfl, rfl, (fU 22 0 σ).2 4 0, ?_⟩
        · rw [e1, su_at]
          exact at_0 hT.1
        · rw [e1, su_at, hu]
      · skip
        refine k_iload d_T_signed_43 rfl ?_
        refine k_iload_n d_T_signed_45 rfl rfl ?_
        refine k_icmp_le (tgt := 54) d_T_signed_46 (by decide) (fun c_46 => ?_) (fun c_46 => ?_)
        · skip
          refine k_iload d_T_signed_54 rfl ?_
          refine k_iret d_T_signed_56 rfl rfl ?_
          refine Or.inl ?_
          have e1 : fSs lo hi σ = (fU 22 0 σ).2 := by
            unfold fSs
            rw [if_neg hw, hsg, if_neg c_40, if_pos c_46]
          exact ⟨by rw [e1]; exact h6, by rw [hsg], rfl, by rw [e1, hu]⟩
        · skip
          refine k_aload_n d_T_signed_49 rfl rfl ?_
          refine k_iload_n d_T_signed_50 rfl rfl ?_
          refine k_call (As := [_]) d_T_signed_51 lT_47 mv_T_failAt rfl rfl (al_0 (by decide)) rfl rfl rfl (Nat.le_of_ble_eq_true rfl) (by decide) (t_failAt) (fun v_51 g_51 κ_51 q_51 => absurd q_51.1 (fun h9 => nomatch h9)) (fun E_51 g_51 κ_51 q_51 => ?_)
          obtain ⟨rE_51, rfl, rfl⟩ := q_51
          obtain rfl := Sum.inr.inj rE_51
          have e1 : fSs lo hi σ = su (fU 22 0 σ).2 6 0 (σ 4 0) := by
            unfold fSs
            rw [if_neg hw, hsg]
            first
              | (rw [if_pos c_40]; exact fW_1 h6)
              | (rw [if_neg c_40, if_neg c_46]; exact fW_1 h6)
          refine Or.inr ⟨?_, rfl, rfl, (fU 22 0 σ).2 4 0, ?_⟩
          · rw [e1, su_at]
            exact at_0 hT.1
          · rw [e1, su_at, hu]
    · skip
      refine k_iload d_T_signed_21 rfl ?_
      refine k_iconst (v := nI 1) d_T_signed_23 (by decide) ?_
      refine k_iadd d_T_signed_24 ?_
      refine k_iconst (v := nI 2) d_T_signed_25 (by decide) ?_
      refine k_idiv d_T_signed_26 (by decide) ?_
      refine k_goto (tgt := 35) d_T_signed_27 (by decide) ?_
      have hsg : sgnU (fU 22 0 σ).1 = ((fU 22 0 σ).1 + nI 1) / nI 2 := by
        unfold sgnU
        rw [hr1]
        rw [ha1] at c_18
        first
          | rw [if_pos c_18]
          | rw [if_neg c_18]
      refine k_istore d_T_signed_35 (Nat.le_of_ble_eq_true rfl) ?_
      refine k_iload d_T_signed_37 rfl ?_
      refine k_iload_n d_T_signed_39 rfl rfl ?_
      refine k_icmp_lt (tgt := 49) d_T_signed_40 (by decide) (fun c_40 => ?_) (fun c_40 => ?_)
      · skip
        refine k_aload_n d_T_signed_49 rfl rfl ?_
        refine k_iload_n d_T_signed_50 rfl rfl ?_
        refine k_call (As := [_]) d_T_signed_51 lT_47 mv_T_failAt rfl rfl (al_0 (by decide)) rfl rfl rfl (Nat.le_of_ble_eq_true rfl) (by decide) (t_failAt) (fun v_51 g_51 κ_51 q_51 => absurd q_51.1 (fun h9 => nomatch h9)) (fun E_51 g_51 κ_51 q_51 => ?_)
        obtain ⟨rE_51, rfl, rfl⟩ := q_51
        obtain rfl := Sum.inr.inj rE_51
        have e1 : fSs lo hi σ = su (fU 22 0 σ).2 6 0 (σ 4 0) := by
          unfold fSs
          rw [if_neg hw, hsg]
          first
            | (rw [if_pos c_40]; exact fW_1 h6)
            | (rw [if_neg c_40, if_neg c_46]; exact fW_1 h6)
        refine Or.inr ⟨?_, rfl, rfl, (fU 22 0 σ).2 4 0, ?_⟩
        · rw [e1, su_at]
          exact at_0 hT.1
        · rw [e1, su_at, hu]
      · skip
        refine k_iload d_T_signed_43 rfl ?_
        refine k_iload_n d_T_signed_45 rfl rfl ?_
        refine k_icmp_le (tgt := 54) d_T_signed_46 (by decide) (fun c_46 => ?_) (fun c_46 => ?_)
        · skip
          refine k_iload d_T_signed_54 rfl ?_
          refine k_iret d_T_signed_56 rfl rfl ?_
          refine Or.inl ?_
          have e1 : fSs lo hi σ = (fU 22 0 σ).2 := by
            unfold fSs
            rw [if_neg hw, hsg, if_neg c_40, if_pos c_46]
          exact ⟨by rw [e1]; exact h6, by rw [hsg], rfl, by rw [e1, hu]⟩
        · skip
          refine k_aload_n d_T_signed_49 rfl rfl ?_
          refine k_iload_n d_T_signed_50 rfl rfl ?_
          refine k_call (As := [_]) d_T_signed_51 lT_47 mv_T_failAt rfl rfl (al_0 (by decide)) rfl rfl rfl (Nat.le_of_ble_eq_true rfl) (by decide) (t_failAt) (fun v_51 g_51 κ_51 q_51 => absurd q_51.1 (fun h9 => nomatch h9)) (fun E_51 g_51 κ_51 q_51 => ?_)
          obtain ⟨rE_51, rfl, rfl⟩ := q_51
          obtain rfl := Sum.inr.inj rE_51
          have e1 : fSs lo hi σ = su (fU 22 0 σ).2 6 0 (σ 4 0) := by
            unfold fSs
            rw [if_neg hw, hsg]
            first
              | (rw [if_pos c_40]; exact fW_1 h6)
              | (rw [if_neg c_40, if_neg c_46]; exact fW_1 h6)
          refine Or.inr ⟨?_, rfl, rfl, (fU 22 0 σ).2 4 0, ?_⟩
          · rw [e1, su_at]
            exact at_0 hT.1
          · rw [e1, su_at, hu]
  · skip
    have hw : 0 ≤ (fU 22 0 σ).2 6 0 := by
      refine Classical.byContradiction (fun h9 => ?_)
      obtain ⟨b, b1, b2⟩ := hmx h9
      have e1 : (uE 2097150 (σ 4 0) (fU 22 0 σ)).2 = (fU 22 0 σ).2 := by
        unfold uE
        rw [if_neg h9, if_pos (by rw [b1]; exact nI_le b2 (by decide))]
      rw [e1] at w_8
      exact h9 w_8
    refine RdP.thr w_8 ?_ rfl
    rw [uE_w hw]
    exact if_pos hw

def fFl (κ : Sg) (i : Nat) (v : Int32) (n : Nat) : Sg := sa κ i (fun j => if j < n then v else κ i j)
theorem fFl_0 {κ : Sg} {i : Nat} {v : Int32} : fFl κ i v 0 = κ := sa_self (fun j => by rw [if_neg (by omega)])
theorem fFl_s {κ : Sg} {i : Nat} {v : Int32} {n : Nat} : su (fFl κ i v n) i n v = fFl κ i v (n + 1) := su_sa (fun j => by
  by_cases e : j = n
  · rw [if_pos (by omega), if_pos e]
  · rw [if_neg e]
    by_cases e2 : j < n
    · rw [if_pos e2, if_pos (by omega)]
    · rw [if_neg e2, if_neg (by omega)])
theorem j_fill {s0 : State} {l : Launch} {c : Cx} {g : Gh} {κ : Sg} {i n : Nat} {v : Int32} (hi : al g i) (hk : kdI i = 11) (hn : lnI g i = n) (hn2 : n < 2 ^ 31) : KC s0 l M_J_fill c [.ref (gA g i), .int v] g κ (fun o g' κ' => o = .inl none ∧ g' = g ∧ κ' = fFl κ i v n) := by
  refine k_in (by decide) rfl rfl (Nat.le_of_ble_eq_true rfl) (fun hB => ?_)
  refine k_iconst (v := nI 0) d_J_fill_0 (by decide) ?_
  refine k_istore_n d_J_fill_1 rfl (Nat.le_of_ble_eq_true rfl) ?_
  refine k_aload_n d_J_fill_2 rfl rfl ?_
  refine k_alen d_J_fill_3 hi hk hn ?_
  refine k_istore_n d_J_fill_4 rfl (Nat.le_of_ble_eq_true rfl) ?_
  have key := k_loop (s0 := s0) (l := l) (M := M_J_fill) (c := c) (hB := hB) (g := g) (pc := 5) (P := fun o g' κ' => o = .inl none ∧ g' = g ∧ κ' = fFl κ i v n) n (fun j => fFl κ i v j) (fun j => [some (.ref (gA g i)), some (.int v), some (.int (nI j)), some (.int (nI n))]) (fun j hj ih => ?_) ?_ 0 (Nat.zero_le _)
  · rw [fFl_0] at key
    exact key
  · skip
    refine k_iload_n d_J_fill_5 rfl rfl ?_
    refine k_iload_n d_J_fill_6 rfl rfl ?_
    refine k_icmp_ge (tgt := 20) d_J_fill_7 (by decide) (fun c_7 => ?_) (fun c_7 => ?_)
    · exact absurd ((nI_leI (by omega) (by omega)).mp c_7) (by omega)
    · skip
      refine k_aload_n d_J_fill_10 rfl rfl ?_
      refine k_iload_n d_J_fill_11 rfl rfl ?_
      refine k_iload_n d_J_fill_12 rfl rfl ?_
      refine k_iastore d_J_fill_13 hi hk (show vp_in (nI j) (lnI g i) by rw [hn]; exact vp_in_nI hj hn2) ?_
      first | refine k_iinc1 d_J_fill_14 rfl ?_ | refine k_iinc d_J_fill_14 rfl ?_
      refine k_goto (tgt := 5) d_J_fill_17 (by decide) ?_
      rw [nI_clamp (by omega), fFl_s]
      exact ih
  · skip
    refine k_iload_n d_J_fill_5 rfl rfl ?_
    refine k_iload_n d_J_fill_6 rfl rfl ?_
    refine k_icmp_ge (tgt := 20) d_J_fill_7 (by decide) (fun c_7 => ?_) (fun c_7 => ?_)
    · skip
      refine k_vret d_J_fill_20 rfl ?_
      exact ⟨rfl, rfl, rfl⟩
    · exact absurd (nI_le (Nat.le_refl _) hn2) c_7

def wT (κ : Sg) (tb : Nat) : Prop := κ 1 1 = nI tb ∧ tb ≤ 32000
theorem t_byteCount {s0 : State} {l : Launch} {c : Cx} {g : Gh} {κ : Sg} {tb : Nat} (hT : wT κ tb) : KC s0 l M_T_byteCount c [.ref (gA g 1)] g κ (fun o g' κ' => o = .inl (some (.int (nI ((tb + 7) / 8)))) ∧ g' = g ∧ κ' = κ) := by
  refine k_in (by decide) rfl rfl (Nat.le_of_ble_eq_true rfl) (fun hB => ?_)
  have ht2 := hT.2
  refine k_aload_n d_T_byteCount_0 rfl rfl ?_
  refine k_getE d_T_byteCount_1 fT_19 rfl (al_0 (by decide)) rfl hT.1 ?_
  refine k_bipush (v := nI 7) d_T_byteCount_4 (by decide) ?_
  refine k_iaddN d_T_byteCount_6  ?_
  refine k_iconst (v := nI 3) d_T_byteCount_7 (by decide) ?_
  refine k_ishr d_T_byteCount_8 ?_
  refine k_top (shr3 (by omega)) ?_
  refine k_iret d_T_byteCount_9 rfl rfl ?_
  exact ⟨rfl, rfl, rfl⟩

def cCut (κ : Sg) (n : Int32) (tb : Nat) : Int32 × Sg := if n < 0 then (nI 0, κ) else if n ≤ nI ((tb + 7) / 8) then (nI 1, su κ 1 1 (nI 8 * n)) else (nI 0, κ)
theorem t_cut {s0 : State} {l : Launch} {c : Cx} {g : Gh} {κ : Sg} {n : Int32} {tb : Nat} (hT : wT κ tb) : KC s0 l M_T_cut c [.ref (gA g 1), .int n] g κ (fun o g' κ' => o = .inl (some (.int (cCut κ n tb).1)) ∧ g' = g ∧ κ' = (cCut κ n tb).2) := by
  refine k_in (by decide) rfl rfl (Nat.le_of_ble_eq_true rfl) (fun hB => ?_)
  refine k_iload_n d_T_cut_0 rfl rfl ?_
  refine k_if_lt (tgt := 12) d_T_cut_1 (by decide) (fun c_1 => ?_) (fun c_1 => ?_)
  · skip
    refine k_iconst (v := nI 0) d_T_cut_12 (by decide) ?_
    refine k_iret d_T_cut_13 rfl rfl ?_
    unfold cCut
    first
      | (rw [if_pos c_1]; exact ⟨rfl, rfl, rfl⟩)
      | (rw [if_neg c_1, if_pos c_9]; exact ⟨rfl, rfl, rfl⟩)
      | (rw [if_neg c_1, if_neg c_9]; exact ⟨rfl, rfl, rfl⟩)
  · skip
    refine k_iload_n d_T_cut_4 rfl rfl ?_
    refine k_aload_n d_T_cut_5 rfl rfl ?_
    refine k_calli (As := []) d_T_cut_6 lT_22 mv_T_byteCount rfl rfl (al_0 (by decide)) rfl rfl rfl (Nat.le_of_ble_eq_true rfl) (by decide) (t_byteCount hT) ?_
    refine k_icmp_le (tgt := 14) d_T_cut_9 (by decide) (fun c_9 => ?_) (fun c_9 => ?_)
    · skip
      refine k_aload_n d_T_cut_14 rfl rfl ?_
      refine k_bipush (v := nI 8) d_T_cut_15 (by decide) ?_
      refine k_iload_n d_T_cut_17 rfl rfl ?_
      refine k_imul d_T_cut_18 ?_
      refine k_put d_T_cut_19 fT_19 rfl (al_0 (by decide)) rfl rfl rfl rfl ?_
      refine k_iconst (v := nI 1) d_T_cut_22 (by decide) ?_
      refine k_iret d_T_cut_23 rfl rfl ?_
      unfold cCut
      first
        | (rw [if_pos c_1]; exact ⟨rfl, rfl, rfl⟩)
        | (rw [if_neg c_1, if_pos c_9]; exact ⟨rfl, rfl, rfl⟩)
        | (rw [if_neg c_1, if_neg c_9]; exact ⟨rfl, rfl, rfl⟩)
    · skip
      refine k_iconst (v := nI 0) d_T_cut_12 (by decide) ?_
      refine k_iret d_T_cut_13 rfl rfl ?_
      unfold cCut
      first
        | (rw [if_pos c_1]; exact ⟨rfl, rfl, rfl⟩)
        | (rw [if_neg c_1, if_pos c_9]; exact ⟨rfl, rfl, rfl⟩)
        | (rw [if_neg c_1, if_neg c_9]; exact ⟨rfl, rfl, rfl⟩)

def cB1 (b : Int32) (tb : Nat) (κ : Sg) : Sg := su (su κ 2 (tb / 8) ((if tb % 8 = 0 then nI 0 else κ 2 (tb / 8)) ||| b <<< (nI (7 - tb % 8) &&& 31)).toInt8.toInt32) 1 1 (nI (tb + 1))
def cBs (v : Int32) : Nat → Nat → Sg → Sg
  | 0, _, κ => κ
  | n + 1, tb, κ => cBs v n (tb + 1) (cB1 (v >>> (nI n &&& 31) &&& nI 1) tb κ)
theorem cBs_T (v : Int32) : ∀ (n tb : Nat) {κ : Sg}, wT κ tb → tb + n ≤ 32000 → wT (cBs v n tb κ) (tb + n)
  | 0, tb, κ, h, _ => h
  | n + 1, tb, κ, h, h2 => by
    have h3 := cBs_T v n (tb + 1) (κ := cB1 (v >>> (nI n &&& 31) &&& nI 1) tb κ) ⟨su_at _ _ _ _, by omega⟩ (by omega)
    have e : tb + (n + 1) = tb + 1 + n := by omega
    rw [e]
    exact h3
theorem t_appendBit {s0 : State} {l : Launch} {c : Cx} {g : Gh} {κ : Sg} {b : Int32} {tb : Nat} (hT : wT κ tb) (ht : tb < 32000) : KC s0 l M_T_appendBit c [.ref (gA g 1), .int b] g κ (fun o g' κ' => o = .inl none ∧ g' = g ∧ κ' = cB1 b tb κ) := by
  refine k_in (by decide) rfl rfl (Nat.le_of_ble_eq_true rfl) (fun hB => ?_)
  refine k_aload_n d_T_appendBit_0 rfl rfl ?_
  refine k_getE d_T_appendBit_1 fT_19 rfl (al_0 (by decide)) rfl hT.1 ?_
  refine k_iconst (v := nI 3) d_T_appendBit_4 (by decide) ?_
  refine k_ishr d_T_appendBit_5 ?_
  refine k_top (shr3 (by omega)) ?_
  refine k_istore_n d_T_appendBit_6 rfl (Nat.le_of_ble_eq_true rfl) ?_
  refine k_aload_n d_T_appendBit_7 rfl rfl ?_
  refine k_getE d_T_appendBit_8 fT_19 rfl (al_0 (by decide)) rfl hT.1 ?_
  refine k_bipush (v := nI 7) d_T_appendBit_11 (by decide) ?_
  refine k_iand d_T_appendBit_13 ?_
  refine k_top (and7 (by omega)) ?_
  refine k_istore_n d_T_appendBit_14 rfl (Nat.le_of_ble_eq_true rfl) ?_
  refine k_iload_n d_T_appendBit_15 rfl rfl ?_
  refine k_if_ne (tgt := 23) d_T_appendBit_16 (by decide) (fun c_16 => ?_) (fun c_16 => ?_)
  · skip
    refine k_aload_n d_T_appendBit_23 rfl rfl ?_
    refine k_getR d_T_appendBit_24 fT_11 rfl (al_0 (by decide)) rfl rfl ?_
    refine k_iload_n d_T_appendBit_27 rfl rfl ?_
    refine k_baload d_T_appendBit_28 (al_0 (by decide)) rfl (show vp_in _ 4000 from vp_in_nI (by omega) (by decide)) ?_
    refine k_istore d_T_appendBit_29 (Nat.le_of_ble_eq_true rfl) ?_
    refine k_aload_n d_T_appendBit_31 rfl rfl ?_
    refine k_getR d_T_appendBit_32 fT_11 rfl (al_0 (by decide)) rfl rfl ?_
    refine k_iload_n d_T_appendBit_35 rfl rfl ?_
    refine k_iload d_T_appendBit_36 rfl ?_
    refine k_iload_n d_T_appendBit_38 rfl rfl ?_
    refine k_bipush (v := nI 7) d_T_appendBit_39 (by decide) ?_
    refine k_iload_n d_T_appendBit_41 rfl rfl ?_
    refine k_isubN d_T_appendBit_42 (by omega) ?_
    refine k_ishl d_T_appendBit_43 ?_
    refine k_ior d_T_appendBit_44 ?_
    refine k_i2b d_T_appendBit_45 ?_
    refine k_bastore d_T_appendBit_46 (al_0 (by decide)) rfl (show vp_in _ 4000 from vp_in_nI (by omega) (by decide)) ?_
    refine k_aload_n d_T_appendBit_47 rfl rfl ?_
    refine k_dup d_T_appendBit_48 rfl ?_
    refine k_getE d_T_appendBit_49 fT_19 rfl (al_0 (by decide)) rfl (show _ = nI tb from hT.1) ?_
    refine k_iconst (v := nI 1) d_T_appendBit_52 (by decide) ?_
    refine k_iaddN d_T_appendBit_53  ?_
    refine k_put d_T_appendBit_54 fT_19 rfl (al_0 (by decide)) rfl rfl rfl rfl ?_
    refine k_vret d_T_appendBit_57 rfl ?_
    refine ⟨rfl, rfl, ?_⟩
    unfold cB1
    rw [nI_clamp (show tb / 8 < 2 ^ 31 by omega)]
    first
      | (rw [if_neg (fun h9 : tb % 8 = 0 => c_16 (by rw [h9]; rfl))]; simp)
      | (rw [if_pos ((nI_eq (by omega) (by decide)).mp c_16)]; simp)
  · skip
    refine k_iconst (v := nI 0) d_T_appendBit_19 (by decide) ?_
    refine k_goto (tgt := 29) d_T_appendBit_20 (by decide) ?_
    refine k_istore d_T_appendBit_29 (Nat.le_of_ble_eq_true rfl) ?_
    refine k_aload_n d_T_appendBit_31 rfl rfl ?_
    refine k_getR d_T_appendBit_32 fT_11 rfl (al_0 (by decide)) rfl rfl ?_
    refine k_iload_n d_T_appendBit_35 rfl rfl ?_
    refine k_iload d_T_appendBit_36 rfl ?_
    refine k_iload_n d_T_appendBit_38 rfl rfl ?_
    refine k_bipush (v := nI 7) d_T_appendBit_39 (by decide) ?_
    refine k_iload_n d_T_appendBit_41 rfl rfl ?_
    refine k_isubN d_T_appendBit_42 (by omega) ?_
    refine k_ishl d_T_appendBit_43 ?_
    refine k_ior d_T_appendBit_44 ?_
    refine k_i2b d_T_appendBit_45 ?_
    refine k_bastore d_T_appendBit_46 (al_0 (by decide)) rfl (show vp_in _ 4000 from vp_in_nI (by omega) (by decide)) ?_
    refine k_aload_n d_T_appendBit_47 rfl rfl ?_
    refine k_dup d_T_appendBit_48 rfl ?_
    refine k_getE d_T_appendBit_49 fT_19 rfl (al_0 (by decide)) rfl (show _ = nI tb from hT.1) ?_
    refine k_iconst (v := nI 1) d_T_appendBit_52 (by decide) ?_
    refine k_iaddN d_T_appendBit_53  ?_
    refine k_put d_T_appendBit_54 fT_19 rfl (al_0 (by decide)) rfl rfl rfl rfl ?_
    refine k_vret d_T_appendBit_57 rfl ?_
    refine ⟨rfl, rfl, ?_⟩
    unfold cB1
    rw [nI_clamp (show tb / 8 < 2 ^ 31 by omega)]
    first
      | (rw [if_neg (fun h9 : tb % 8 = 0 => c_16 (by rw [h9]; rfl))]; simp)
      | (rw [if_pos ((nI_eq (by omega) (by decide)).mp c_16)]; simp)

theorem t_append_l {s0 : State} {l : Launch} {c : Cx} {hB : Mem} {g : Gh} {v w : Int32} : ∀ (n tb : Nat) (κ : Sg), wT κ tb → tb + n ≤ 32000 → n ≤ 32 → KQ s0 l M_T_append c hB 29 [some (.ref (gA g 1)), some (.int v), some (.int w), some (.int (nI n - nI 1))] [] g κ (fun o g' κ' => o = .inl (some (.int (nI (tb + n)))) ∧ g' = g ∧ κ' = cBs v n tb κ) := by
  intro n
  induction n with
  | zero =>
    intro tb κ hT h1 h2
    refine k_iload_n d_T_append_29 rfl rfl ?_
    refine k_if_lt (tgt := 48) d_T_append_30 (by decide) (fun c_30 => ?_) (fun c_30 => ?_)
    · skip
      refine k_aload_n d_T_append_48 rfl rfl ?_
      refine k_getE d_T_append_49 fT_19 rfl (al_0 (by decide)) rfl hT.1 ?_
      refine k_iret d_T_append_52 rfl rfl ?_
      exact ⟨rfl, rfl, rfl⟩
    · exact absurd (show nI 0 - nI 1 < 0 by decide) c_30
  | succ n ih =>
    intro tb κ hT h1 h2
    have e0 : nI (n + 1) - nI 1 = nI n := pk_sub (by omega)
    rw [e0]
    have e1 : nI n + Int32.ofInt (-1) = nI n - nI 1 := by rw [Int32.sub_eq_add_neg]; rfl
    have e2 : tb + (n + 1) = tb + 1 + n := by omega
    rw [e2]
    refine k_iload_n d_T_append_29 rfl rfl ?_
    refine k_if_lt (tgt := 48) d_T_append_30 (by decide) (fun c_30 => ?_) (fun c_30 => ?_)
    · exact absurd c_30 (Int32.not_lt.mpr (nI_pos' (by omega)))
    · skip
      refine k_aload_n d_T_append_33 rfl rfl ?_
      refine k_iload_n d_T_append_34 rfl rfl ?_
      refine k_iload_n d_T_append_35 rfl rfl ?_
      refine k_ishr d_T_append_36 ?_
      refine k_iconst (v := nI 1) d_T_append_37 (by decide) ?_
      refine k_iand d_T_append_38 ?_
      refine k_callv (As := [_]) d_T_append_39 lT_26 mv_T_appendBit rfl rfl (al_0 (by decide)) rfl rfl rfl (Nat.le_of_ble_eq_true rfl) (by decide) (t_appendBit hT (by omega)) ?_
      refine k_iinc d_T_append_42 rfl ?_
      refine k_goto (tgt := 29) d_T_append_45 (by decide) ?_
      exact e1 ▸ ih (tb + 1) _ ⟨su_at _ _ _ _, by omega⟩ (by omega) (by omega)
def cApp (κ : Sg) (v n : Int32) (tb : Nat) : Int32 × Sg := if n < nI 1 then (-1, κ) else if nI 32 < n then (-1, κ) else if nI tb + n ≤ nI 32000 then (nI (tb + n.toNatClampNeg), cBs v n.toNatClampNeg tb κ) else (-1, κ)
theorem t_append {s0 : State} {l : Launch} {c : Cx} {g : Gh} {κ : Sg} {v n : Int32} {tb : Nat} (hT : wT κ tb) : KC s0 l M_T_append c [.ref (gA g 1), .int v, .int n] g κ (fun o g' κ' => o = .inl (some (.int (cApp κ v n tb).1)) ∧ g' = g ∧ κ' = (cApp κ v n tb).2) := by
  refine k_in (by decide) rfl rfl (Nat.le_of_ble_eq_true rfl) (fun hB => ?_)
  have ht2 := hT.2
  refine k_iload_n d_T_append_0 rfl rfl ?_
  refine k_iconst (v := nI 1) d_T_append_1 (by decide) ?_
  refine k_icmp_lt (tgt := 23) d_T_append_2 (by decide) (fun c_2 => ?_) (fun c_2 => ?_)
  · skip
    refine k_iconst (v := (-1)) d_T_append_23 (by decide) ?_
    refine k_iret d_T_append_24 rfl rfl ?_
    unfold cApp
    first
      | (rw [if_pos c_2]; exact ⟨rfl, rfl, rfl⟩)
      | (rw [if_neg c_2, if_pos c_8]; exact ⟨rfl, rfl, rfl⟩)
      | (rw [if_neg c_2, if_neg c_8, if_neg c_20]; exact ⟨rfl, rfl, rfl⟩)
  · skip
    refine k_iload_n d_T_append_5 rfl rfl ?_
    refine k_bipush (v := nI 32) d_T_append_6 (by decide) ?_
    refine k_icmp_gt (tgt := 23) d_T_append_8 (by decide) (fun c_8 => ?_) (fun c_8 => ?_)
    · skip
      refine k_iconst (v := (-1)) d_T_append_23 (by decide) ?_
      refine k_iret d_T_append_24 rfl rfl ?_
      unfold cApp
      first
        | (rw [if_pos c_2]; exact ⟨rfl, rfl, rfl⟩)
        | (rw [if_neg c_2, if_pos c_8]; exact ⟨rfl, rfl, rfl⟩)
        | (rw [if_neg c_2, if_neg c_8, if_neg c_20]; exact ⟨rfl, rfl, rfl⟩)
    · skip
      refine k_aload_n d_T_append_11 rfl rfl ?_
      refine k_getE d_T_append_12 fT_19 rfl (al_0 (by decide)) rfl hT.1 ?_
      refine k_iload_n d_T_append_15 rfl rfl ?_
      refine k_iadd d_T_append_16 ?_
      refine k_sipush (v := nI 32000) d_T_append_17 (by decide) ?_
      refine k_icmp_le (tgt := 25) d_T_append_20 (by decide) (fun c_20 => ?_) (fun c_20 => ?_)
      · skip
        refine k_iload_n d_T_append_25 rfl rfl ?_
        refine k_iconst (v := nI 1) d_T_append_26 (by decide) ?_
        refine k_isub d_T_append_27 ?_
        refine k_istore_n d_T_append_28 rfl (Nat.le_of_ble_eq_true rfl) ?_
        unfold cApp
        rw [if_neg c_2, if_neg c_8, if_pos c_20]
        have hn0 : ¬ n < 0 := fun h9 => c_2 (Int32.lt_trans h9 (show (0 : Int32) < nI 1 by decide))
        obtain ⟨n9, hn9, rfl⟩ := nI_of hn0
        have h32 : n9 ≤ 32 := (nI_leI hn9 (by decide)).mp (Int32.not_lt.mp c_8)
        rw [nI_add] at c_20
        have h3 := (nI_leI (by omega) (by decide)).mp c_20
        rw [nI_clamp hn9]
        exact t_append_l n9 tb _ hT h3 h32
      · skip
        refine k_iconst (v := (-1)) d_T_append_23 (by decide) ?_
        refine k_iret d_T_append_24 rfl rfl ?_
        unfold cApp
        first
          | (rw [if_pos c_2]; exact ⟨rfl, rfl, rfl⟩)
          | (rw [if_neg c_2, if_pos c_8]; exact ⟨rfl, rfl, rfl⟩)
          | (rw [if_neg c_2, if_neg c_8, if_neg c_20]; exact ⟨rfl, rfl, rfl⟩)

theorem t_rewind {s0 : State} {l : Launch} {c : Cx} {g : Gh} {κ : Sg} {tb : Nat} (hT : wT κ tb) : KC s0 l M_T_rewind c [.ref (gA g 1)] g κ (fun o g' κ' => o = .inl none ∧ g' = g ∧ κ' = su (su (su κ 1 1 (nI (8 * ((tb + 7) / 8)))) 1 2 (nI 0)) 1 3 (-1)) := by
  refine k_in (by decide) rfl rfl (Nat.le_of_ble_eq_true rfl) (fun hB => ?_)
  have ht2 := hT.2
  have hc : cCut κ (nI ((tb + 7) / 8)) tb = (nI 1, su κ 1 1 (nI (8 * ((tb + 7) / 8)))) := by
    unfold cCut
    rw [if_neg (nI_pos (by omega)), if_pos (nI_le (Nat.le_refl _) (by omega)), pk_mul]
  refine k_aload_n d_T_rewind_0 rfl rfl ?_
  refine k_aload_n d_T_rewind_1 rfl rfl ?_
  refine k_calli (As := []) d_T_rewind_2 lT_22 mv_T_byteCount rfl rfl (al_0 (by decide)) rfl rfl rfl (Nat.le_of_ble_eq_true rfl) (by decide) (t_byteCount hT) ?_
  refine k_calli (As := [_]) d_T_rewind_5 lT_30 mv_T_cut rfl rfl (al_0 (by decide)) rfl rfl rfl (Nat.le_of_ble_eq_true rfl) (by decide) (t_cut hT) ?_
  refine k_pop d_T_rewind_8 rfl ?_
  refine k_aload_n d_T_rewind_9 rfl rfl ?_
  refine k_iconst (v := nI 0) d_T_rewind_10 (by decide) ?_
  refine k_put d_T_rewind_11 fT_34 rfl (al_0 (by decide)) rfl rfl rfl rfl ?_
  refine k_aload_n d_T_rewind_14 rfl rfl ?_
  refine k_iconst (v := (-1)) d_T_rewind_15 (by decide) ?_
  refine k_put d_T_rewind_16 fT_15 rfl (al_0 (by decide)) rfl rfl rfl rfl ?_
  refine k_vret d_T_rewind_19 rfl ?_
  refine ⟨rfl, rfl, ?_⟩
  rw [hc]

