/-! ===== passing over ===== -/

theorem s_most0 {s0 : State} {l : Launch} {c : Cx} {g : Gh} {κ : Sg} {A s : Nat} (hA : 1 ≤ A ∧ A ≤ 4) (hs : s < 100) (ha : κ 3 2 = nI A) (h0 : s % A = 0) : KC s0 l M_S_mostPassedInB c [.ref (gA g 6), .int (nI s)] g κ (fun o g' κ' => o = .inl (some (.int (nI 0))) ∧ g' = g ∧ κ' = κ) := by
  refine k_in (by decide) rfl rfl (Nat.le_of_ble_eq_true rfl) (fun hB => ?_)
  refine k_iload_n d_S_mostPassedInB_0 rfl rfl ?_
  refine k_aload_n d_S_mostPassedInB_1 rfl rfl ?_
  refine k_getR d_S_mostPassedInB_2 fS_32 rfl (al_0 (by decide)) rfl rfl ?_
  refine k_getE d_S_mostPassedInB_5 fS_68 rfl (al_0 (by decide)) rfl ha ?_
  refine k_iremN d_S_mostPassedInB_8 ⟨by omega, by omega, by omega⟩ ?_
  refine k_istore_n d_S_mostPassedInB_9 rfl (Nat.le_of_ble_eq_true rfl) ?_
  refine k_iload_n d_S_mostPassedInB_10 rfl rfl ?_
  refine k_if_eq (tgt := 21) d_S_mostPassedInB_11 (by decide) (fun c_11 => ?_) (fun c_11 => ?_)
  · skip
    refine k_iconst (v := nI 0) d_S_mostPassedInB_21 (by decide) ?_
    refine k_goto (tgt := 34) d_S_mostPassedInB_22 (by decide) ?_
    refine k_iret d_S_mostPassedInB_34 rfl rfl ?_
    exact ⟨rfl, rfl, rfl⟩
  · exact absurd (by rw [h0]; rfl) c_11

theorem s_po_l {s0 : State} {l : Launch} {c : Cx} {hB : Mem} {g : Gh} {A B s m : Nat} {n : Int32} {W : Nat} {ct : Int32} (hsm : s + m ≤ A * B) (hm : m ≤ 16) : ∀ (r i : Nat) (κ τ : Sg), i + r = m → PR A B s i g n κ τ → (i < m → (τ 34 0 = nI 2 ∨ (τ 34 0 = nI 3 ∧ W ≠ 0 ∧ W < 4 ∧ κ 6 9 = nI W))) → (τ 34 0 = nI 3 → ∀ i, i < m → ¬ (s + i) % A = 0) → KQ s0 l M_S_passOver c hB 30 [some (.ref (gA g 6)), some (.int (nI s)), some (.int ct), some (.int (nI m)), some (.int (nI i))] [] g κ (fun o g' κ' => kp (SI g) κ κ' ∧ o = .inl (some (.int (nI m))) ∧ g' = g ∧ BT A B (s + m) g n κ' (fPl A B r (s + i) τ)) := by
  intro r
  induction r with
  | zero =>
    intro i κ τ hi h hP hno
    have hqN : gN g < 3 + gC g := by have := h.1.1.1.1; omega
    refine k_iload d_S_passOver_30 rfl ?_
    refine k_iload_n d_S_passOver_32 rfl rfl ?_
    refine k_icmp_ge (tgt := 66) d_S_passOver_33 (by decide) (fun c_33 => ?_) (fun c_33 => ?_)
    · skip
      refine k_aload_n d_S_passOver_66 rfl rfl ?_
      refine k_getR d_S_passOver_67 fS_32 rfl (al_0 (by decide)) rfl rfl ?_
      refine k_getR d_S_passOver_70 fS_115 rfl (al_0 (by decide)) rfl rfl ?_
      refine k_getR d_S_passOver_73 fS_119 rfl (al_P hqN) (kd_P (gN g)) (pt_P1 g (gN g)) ?_
      refine k_iconst (v := nI 3) d_S_passOver_76 (by decide) ?_
      refine k_dup2 d_S_passOver_77 rfl rfl ?_
      refine k_iaload d_S_passOver_78 (al_F hqN) (kd_F (gN g)) (show vp_in _ (lnI g (idF (gN g))) by rw [ln_F]; exact vp_in_nI (show 3 < 4 by decide) (by decide)) ?_
      refine k_iload_n d_S_passOver_79 rfl rfl ?_
      refine k_iadd d_S_passOver_80 ?_
      refine k_iastore d_S_passOver_81 (al_F hqN) (kd_F (gN g)) (show vp_in _ (lnI g (idF (gN g))) by rw [ln_F]; exact vp_in_nI (show 3 < 4 by decide) (by decide)) ?_
      refine k_aload_n d_S_passOver_82 rfl rfl ?_
      refine k_getR d_S_passOver_83 fS_32 rfl (al_0 (by decide)) rfl rfl ?_
      refine k_getR d_S_passOver_86 fS_124 rfl (al_0 (by decide)) rfl rfl ?_
      refine k_iconst (v := nI 5) d_S_passOver_89 (by decide) ?_
      refine k_dup2 d_S_passOver_90 rfl rfl ?_
      refine k_iaload d_S_passOver_91 (al_0 (by decide)) rfl (show vp_in _ 8 from vp_in_nI (show 5 < 8 by decide) (by decide)) ?_
      refine k_iload_n d_S_passOver_92 rfl rfl ?_
      refine k_iadd d_S_passOver_93 ?_
      refine k_iastore d_S_passOver_94 (al_0 (by decide)) rfl (show vp_in _ 8 from vp_in_nI (show 5 < 8 by decide) (by decide)) ?_
      refine k_iload_n d_S_passOver_95 rfl rfl ?_
      refine k_iret d_S_passOver_96 rfl rfl ?_
      have ei : i = m := by omega
      subst ei
      refine ⟨?_, rfl, rfl, h.to⟩
      exact kasu (by simp) (kasu (by simp) (kp.refl _ _))
    · exact absurd (nI_le (show m ≤ i by omega) (by omega)) c_33
  | succ r ih =>
    intro i κ τ hi h hP0 hno
    have hP := hP0 (by omega)
    have hqN : gN g < 3 + gC g := by have := h.1.1.1.1; omega
    have hA := h.1.1.2.1
    have hO := h.2.2.2.2.1.2.2.1
    have hAB : A * B ≤ 16 := Nat.mul_le_mul hA.1.2 hA.2.2
    have hlT : ∀ p, p < 3 → wdN A p * wdN B p ≤ gL g (idD (gT g) p) := by
      rcases hP with e | e
      · exact (h.1.2.2.2.1 (hO.2.1 e)).2
      · exact (h.1.2.2.2.1 (hO.2.2 e.1).2).2
    have hlO : ¬ κ 6 6 = nI 2 → ∀ p, p < 3 → wdN A p * wdN B p ≤ gL g (idD (gO g) p) := fun z => by
      rcases hP with e | e
      · exact absurd (h.2.2.2.2.1.1.trans e) z
      · exact (h.1.2.2.2.2 (hO.2.2 e.1).1).2
    show KQ s0 l M_S_passOver c hB 30 [some (.ref (gA g 6)), some (.int (nI s)), some (.int ct), some (.int (nI m)), some (.int (nI i))] [] g κ (fun o g' κ' => kp (SI g) κ κ' ∧ o = .inl (some (.int (nI m))) ∧ g' = g ∧ BT A B (s + m) g n κ' (fPl A B r (s + i + 1) (fPk A B (s + i) τ)))
    rcases hP with hP | hP
    · skip
      refine k_iload d_S_passOver_30 rfl ?_
      refine k_iload_n d_S_passOver_32 rfl rfl ?_
      refine k_icmp_ge (tgt := 66) d_S_passOver_33 (by decide) (fun c_33 => ?_) (fun c_33 => ?_)
      · exact absurd ((nI_leI (by omega) (by omega)).mp c_33) (by omega)
      · skip
        refine k_aload_n d_S_passOver_36 rfl rfl ?_
        refine k_iload_n d_S_passOver_37 rfl rfl ?_
        refine k_iload d_S_passOver_38 rfl ?_
        refine k_iaddN d_S_passOver_40  ?_
        refine k_aload_n d_S_passOver_41 rfl rfl ?_
        refine k_getE d_S_passOver_42 fS_61 rfl (al_0 (by decide)) rfl (h.2.2.2.2.1.1.trans hP) ?_
        refine k_iconst (v := nI 2) d_S_passOver_45 (by decide) ?_
        refine k_icmp_ne (tgt := 53) d_S_passOver_46 (by decide) (fun c_46 => ?_) (fun c_46 => ?_)
        · exact absurd rfl c_46
        · skip
          refine k_iconst (v := nI 0) d_S_passOver_49 (by decide) ?_
          refine k_goto (tgt := 57) d_S_passOver_50 (by decide) ?_
          refine k_callv (As := [_, _]) d_S_passOver_57 lS_112 mv_S_foretellSquare rfl rfl (al_0 (by decide)) rfl rfl rfl (Nat.le_of_ble_eq_true rfl) (by decide) (s_foretellSquare (w := 0) hA h.1.1.1 h.1.1.2.2.1 h.1.1.2.2.2.1 h.1.1.2.2.2.2.1 (show s + i < A * B by omega) (by omega) hlO hlT) ?_
          first | refine k_iinc1 d_S_passOver_60 rfl ?_ | refine k_iinc d_S_passOver_60 rfl ?_
          refine k_goto (tgt := 30) d_S_passOver_63 (by decide) ?_
          obtain ⟨hn, hk, h34, h69⟩ := h.step (W := 0) (show s + i < A * B by omega) (Or.inl ⟨hP, rfl⟩)
          refine KQ.mono (ih (i + 1) _ _ (by omega) hn (fun _ => Or.inl (by rw [h34]; exact hP)) (fun z j hj => hno (by rw [← h34]; exact z) j hj)) (fun o g' κ' z => ⟨hk.trans z.1, z.2⟩)
    · have hW4 := hP.2.2.1
      refine k_iload d_S_passOver_30 rfl ?_
      refine k_iload_n d_S_passOver_32 rfl rfl ?_
      refine k_icmp_ge (tgt := 66) d_S_passOver_33 (by decide) (fun c_33 => ?_) (fun c_33 => ?_)
      · exact absurd ((nI_leI (by omega) (by omega)).mp c_33) (by omega)
      · skip
        refine k_aload_n d_S_passOver_36 rfl rfl ?_
        refine k_iload_n d_S_passOver_37 rfl rfl ?_
        refine k_iload d_S_passOver_38 rfl ?_
        refine k_iaddN d_S_passOver_40  ?_
        refine k_aload_n d_S_passOver_41 rfl rfl ?_
        refine k_getE d_S_passOver_42 fS_61 rfl (al_0 (by decide)) rfl (h.2.2.2.2.1.1.trans hP.1) ?_
        refine k_iconst (v := nI 2) d_S_passOver_45 (by decide) ?_
        refine k_icmp_ne (tgt := 53) d_S_passOver_46 (by decide) (fun c_46 => ?_) (fun c_46 => ?_)
        · skip
          refine k_aload_n d_S_passOver_53 rfl rfl ?_
          refine k_getE d_S_passOver_54 fS_109 rfl (al_0 (by decide)) rfl hP.2.2.2 ?_
          refine k_callv (As := [_, _]) d_S_passOver_57 lS_112 mv_S_foretellSquare rfl rfl (al_0 (by decide)) rfl rfl rfl (Nat.le_of_ble_eq_true rfl) (by decide) (s_foretellSquare (w := W) hA h.1.1.1 h.1.1.2.2.1 h.1.1.2.2.2.1 h.1.1.2.2.2.2.1 (show s + i < A * B by omega) (by omega) hlO hlT) ?_
          first | refine k_iinc1 d_S_passOver_60 rfl ?_ | refine k_iinc d_S_passOver_60 rfl ?_
          refine k_goto (tgt := 30) d_S_passOver_63 (by decide) ?_
          obtain ⟨hn, hk, h34, h69⟩ := h.step (W := W) (show s + i < A * B by omega) (Or.inr ⟨hP.1, hP.2.1, hP.2.2.1, hP.2.2.2, hno hP.1 i (by omega)⟩)
          refine KQ.mono (ih (i + 1) _ _ (by omega) hn (fun _ => Or.inr ⟨by rw [h34]; exact hP.1, hP.2.1, hP.2.2.1, h69⟩) (fun z j hj => hno (by rw [← h34]; exact z) j hj)) (fun o g' κ' z => ⟨hk.trans z.1, z.2⟩)
        · exact absurd c_46 (by decide)

theorem s_po_t {s0 : State} {l : Launch} {c : Cx} {hB : Mem} {g : Gh} {κ σ : Sg} {A B s : Nat} {n : Int32} {W M : Nat} {ct : Int32} {y3 y4 : Option Value} (hb : BT A B s g n κ σ) (hM : ∀ m, fPs A B s m (σ 4 0) (fU 22 0 σ).2 = if m ≤ M then (nI 1, fPl A B m s (fU 22 0 σ).2) else (nI 0, fW (fU 22 0 σ).2 (σ 4 0))) (hMs : s + M ≤ A * B) (hM16 : M ≤ 16) (hP : 0 < M → (σ 34 0 = nI 2 ∨ (σ 34 0 = nI 3 ∧ W ≠ 0 ∧ W < 4 ∧ κ 6 9 = nI W))) (hno : σ 34 0 = nI 3 → ∀ i, i < M → ¬ (s + i) % A = 0) : KQ s0 l M_S_passOver c hB 23 [some (.ref (gA g 6)), some (.int (nI s)), some (.int ct), y3, y4] [.int (nI M), .ref (gA g 1)] g κ (EV A B s g n κ σ) := by
  have hR := hb.2.1.1
  have hw := hb.2.1.2.2.2.1
  refine k_callT (As := [_]) d_S_passOver_23 lS_106 mv_T_unsigned rfl rfl (al_0 (by decide)) rfl rfl rfl (Nat.le_of_ble_eq_true rfl) (by decide) (t_unsigned hb.2.1) (fun w_23 => ?_) (fun w_23 x_23 => ?_)
  · skip
    obtain ⟨u1, u2, m, u3, u4⟩ := u_ok hR hw (by omega) w_23
    have hr := hb.read (tk_u 22 0 σ) (okR.u 22 0 hR) u2
    rw [u1, u3]
    have e9 : fPo A B s σ = (nI 1, fPl A B m s (fU 22 0 σ).2) := by
      unfold fPo
      rw [if_neg (by rw [u2]; decide), u3, nI_clamp (by omega), hM m, if_pos u4]
    refine k_istore_n d_S_passOver_26 rfl (Nat.le_of_ble_eq_true rfl) ?_
    refine k_iconst (v := nI 0) d_S_passOver_27 (by decide) ?_
    refine k_istore d_S_passOver_28 (Nat.le_of_ble_eq_true rfl) ?_
    have e34 : (fU 22 0 σ).2 34 0 = σ 34 0 := tk_u 22 0 σ 34 (by decide) (by decide) 0
    refine KQ.mono (s_po_l (W := W) (by omega) (by omega) m 0 _ _ (by omega) (PR.of hr) (fun hm0 => ?_) (fun z i hi => hno (e34.symm.trans z) i (by omega))) (fun o g' κ' z => ?_)
    · rw [e34]
      exact hP (by omega)
    · unfold EV
      rw [e9]
      exact ⟨(kpI (kp.su (S := [1]) (by decide)) (by decide)).trans z.1, Or.inl ⟨z.2.2.2.2.1.2.2.2.1, (show ¬ nI 1 = 0 by decide), z.2.2.1, m, u3, by omega, z.2.1, z.2.2.2⟩⟩
  · skip
    rcases u_fail hR hw (by omega) w_23 with ⟨q1, q2⟩ | ⟨q1, ⟨b, q2, q3, q4⟩, q5⟩
    · have e9 : fPo A B s σ = (nI 0, (fU 22 0 σ).2) := if_pos q1
      have z := EQ.thr0 (S := SI g) (g := g) (R := fun _ => True) (x := x_23) in1 q1 ⟨hb.2.2.1, hb.2.1.2.2.1⟩ (tk_kp (tk_u 22 0 σ))
      rw [q2]
      unfold EV
      rw [e9]
      refine ⟨z.1, Or.inr ?_⟩
      exact z.2.resolve_left (fun y => nomatch y.2.2.1)
    · have e9 : fPo A B s σ = (nI 0, su (fU 22 0 σ).2 6 0 (σ 4 0)) := by
        unfold fPo
        rw [if_neg (by rw [q1]; decide), q2, nI_clamp (by omega), hM b, if_neg (by omega), fW_n q1]
      have w9 : 0 ≤ su (fU 22 0 σ).2 6 0 (σ 4 0) 6 0 := by rw [su_at]; exact at_0 hR
      have z := EQ.thr0 (S := SI g) (g := g) (R := fun _ => True) (x := x_23) in1 w9 ⟨hb.2.2.1, hb.2.1.2.2.1⟩ ((tk_kp (tk_u 22 0 σ)).trans (kp.su (by decide)))
      rw [q5]
      unfold EV
      rw [e9]
      refine ⟨z.1, Or.inr ?_⟩
      exact z.2.resolve_left (fun y => nomatch y.2.2.1)

theorem s_passOver {s0 : State} {l : Launch} {c : Cx} {g : Gh} {κ σ : Sg} {A B s : Nat} {n : Int32} (hs : s < A * B) (hb : BT A B s g n κ σ) (h1 : ¬ σ 34 0 = nI 1) : KC s0 l M_S_passOver c [.ref (gA g 6), .int (nI s), .int (nI (A * B))] g κ (EV A B s g n κ σ) := by
  refine k_in (by decide) rfl rfl (Nat.le_of_ble_eq_true rfl) (fun hB => ?_)
  have hA := hb.1.1.2.1
  have ha := hb.1.1.2.2.2.2.1
  have hAB : A * B ≤ 16 := Nat.mul_le_mul hA.1.2 hA.2.2
  rcases hb.2.2.2.1.2.2.1.1 with q1 | h2 | h3
  · exact absurd q1 h1
  · skip
    refine k_aload_n d_S_passOver_0 rfl rfl ?_
    refine k_getR d_S_passOver_1 fS_28 rfl (al_0 (by decide)) rfl rfl ?_
    refine k_aload_n d_S_passOver_4 rfl rfl ?_
    refine k_getE d_S_passOver_5 fS_61 rfl (al_0 (by decide)) rfl (hb.2.2.2.1.1.trans h2) ?_
    refine k_iconst (v := nI 2) d_S_passOver_8 (by decide) ?_
    refine k_icmp_ne (tgt := 18) d_S_passOver_9 (by decide) (fun c_9 => ?_) (fun c_9 => ?_)
    · exact absurd rfl c_9
    · skip
      refine k_iload_n d_S_passOver_12 rfl rfl ?_
      refine k_iload_n d_S_passOver_13 rfl rfl ?_
      refine k_isubN d_S_passOver_14 (by omega) ?_
      refine k_goto (tgt := 23) d_S_passOver_15 (by decide) ?_
      have e34 : (fU 22 0 σ).2 34 0 = σ 34 0 := tk_u 22 0 σ 34 (by decide) (by decide) 0
      have e32 : (fU 22 0 σ).2 32 0 = σ 32 0 := tk_u 22 0 σ 32 (by decide) (by decide) 0
      exact s_po_t (W := 0) (M := A * B - s) hb (fun m => ps_2 (e34.trans h2)) (by omega) (by omega) (fun _ => Or.inl h2) (fun z => absurd (h2.symm.trans z) (by decide))
  · by_cases h0 : s % A = 0
    · skip
      refine k_aload_n d_S_passOver_0 rfl rfl ?_
      refine k_getR d_S_passOver_1 fS_28 rfl (al_0 (by decide)) rfl rfl ?_
      refine k_aload_n d_S_passOver_4 rfl rfl ?_
      refine k_getE d_S_passOver_5 fS_61 rfl (al_0 (by decide)) rfl (hb.2.2.2.1.1.trans h3) ?_
      refine k_iconst (v := nI 2) d_S_passOver_8 (by decide) ?_
      refine k_icmp_ne (tgt := 18) d_S_passOver_9 (by decide) (fun c_9 => ?_) (fun c_9 => ?_)
      · skip
        refine k_aload_n d_S_passOver_18 rfl rfl ?_
        refine k_iload_n d_S_passOver_19 rfl rfl ?_
        refine k_calli (As := [_]) d_S_passOver_20 lS_103 mv_S_mostPassedInB rfl rfl (al_0 (by decide)) rfl rfl rfl (Nat.le_of_ble_eq_true rfl) (by decide) (s_most0 hA.1 (by omega) ha h0) ?_
        have e34 : (fU 22 0 σ).2 34 0 = σ 34 0 := tk_u 22 0 σ 34 (by decide) (by decide) 0
        have e32 : (fU 22 0 σ).2 32 0 = σ 32 0 := tk_u 22 0 σ 32 (by decide) (by decide) 0
        have e0 : mostN A B s false (¬ (fU 22 0 σ).2 32 0 = 0) = 0 := by
          unfold mostN
          rw [if_neg (by decide), if_pos (Or.inl h0)]
        exact s_po_t (W := 0) (M := 0) hb (fun m => by rw [ps_3 hA.1.1 hs (e34.trans h3), e0]) (by omega) (by decide) (fun z => absurd z (by decide)) (fun _ i hi => absurd hi (by omega))
      · exact absurd c_9 (by decide)
    · obtain ⟨W, hW, hW4, hWi⟩ : ∃ W, κ 6 9 = nI W ∧ W < 4 ∧ (W = 0 ↔ ¬ σ 32 0 = 0) := by
        rcases (hb.2.2.2.2.2.2 h0).2.2 h3 with ⟨y1, y2⟩ | ⟨y1, f, b, y2, y3, y4, y5, -⟩
        · exact ⟨0, y2, by decide, fun _ => y1, fun _ => rfl⟩
        · exact ⟨2 * f + b, y5, by omega, fun z => absurd z y4, fun z => absurd y1 z⟩
      refine k_aload_n d_S_passOver_0 rfl rfl ?_
      refine k_getR d_S_passOver_1 fS_28 rfl (al_0 (by decide)) rfl rfl ?_
      refine k_aload_n d_S_passOver_4 rfl rfl ?_
      refine k_getE d_S_passOver_5 fS_61 rfl (al_0 (by decide)) rfl (hb.2.2.2.1.1.trans h3) ?_
      refine k_iconst (v := nI 2) d_S_passOver_8 (by decide) ?_
      refine k_icmp_ne (tgt := 18) d_S_passOver_9 (by decide) (fun c_9 => ?_) (fun c_9 => ?_)
      · skip
        refine k_aload_n d_S_passOver_18 rfl rfl ?_
        refine k_iload_n d_S_passOver_19 rfl rfl ?_
        refine k_calli (As := [_]) d_S_passOver_20 lS_103 mv_S_mostPassedInB rfl rfl (al_0 (by decide)) rfl rfl rfl (Nat.le_of_ble_eq_true rfl) (by decide) (s_most hA.1 (by omega) ha hW hW4) ?_
        have e34 : (fU 22 0 σ).2 34 0 = σ 34 0 := tk_u 22 0 σ 34 (by decide) (by decide) 0
        have e32 : (fU 22 0 σ).2 32 0 = σ 32 0 := tk_u 22 0 σ 32 (by decide) (by decide) 0
        have e0 : mostN A B s false (¬ (fU 22 0 σ).2 32 0 = 0) = if s % A = 0 ∨ W = 0 then 0 else A - s % A := by
          unfold mostN
          rw [if_neg (by decide), e32]
          by_cases q : W = 0
          · rw [if_pos (Or.inr (hWi.mp q)), if_pos (Or.inr q)]
          · rw [if_neg (fun z => z.elim h0 (fun y => q (hWi.mpr y))), if_neg (fun z => z.elim h0 q)]
        have hle : (if s % A = 0 ∨ W = 0 then 0 else A - s % A) ≤ 4 := by
          rw [← e0]
          exact most_le hA.1.2
        have hsm : s + (if s % A = 0 ∨ W = 0 then 0 else A - s % A) ≤ A * B := by
          have := ((ps_most (n := if s % A = 0 ∨ W = 0 then 0 else A - s % A) (inn := (fU 22 0 σ).2 32 0) hA.1.1 hs).mpr (by rw [e0]; exact Nat.le_refl _)).1
          omega
        refine s_po_t (W := W) hb (fun m => by rw [ps_3 hA.1.1 hs (e34.trans h3), e0]) hsm (by omega) (fun z => Or.inr ⟨h3, fun q => ?_, hW4, hW⟩) (fun _ i hi => most_row hA.1.1 (by rw [e0]; exact Nat.le_refl _) i hi)
        rw [if_pos (Or.inr q)] at z
        exact absurd z (by decide)
      · exact absurd c_9 (by decide)

