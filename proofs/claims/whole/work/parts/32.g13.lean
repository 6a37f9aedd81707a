/-! ===== look, shown, dot, sum ===== -/
def fLk (σ : Sg) (w : Int32) : Int32 × Sg := if w < 0 then (nI 0, su σ 0 0 (nI 1)) else if nI 8 ≤ w then (nI 0, su σ 0 0 (nI 1)) else (σ (20 + w.toNatClampNeg) 0, su σ 0 0 (nI 0))
theorem m_look {s0 : State} {l : Launch} {m : Nat} {σ : Sg} {w : Int32} : GC s0 l M_M_look m [.int w] σ (fun r σ' => r = some (.int (fLk σ w).1) ∧ σ' = (fLk σ w).2) := by
  refine g_in (by decide) rfl rfl (Nat.le_of_ble_eq_true rfl) (fun hB => ?_)
  refine g_aload_n d_M_look_0 rfl rfl ?_
  refine g_iconst (v := nI 0) d_M_look_1 (by decide) ?_
  refine g_put d_M_look_2 fM_1 rfl rfl rfl rfl ?_
  refine g_iload_n d_M_look_5 rfl rfl ?_
  unfold fLk
  rcases pk_ix w (n := 8) (by decide) with h | h | ⟨j, hj, rfl⟩
  · rw [if_pos h]
    refine g_tableOut (tgt := 92) d_M_look_6 (Or.inl (by have := Int32.lt_iff_toInt_lt.mp h; simpa using this)) (by decide) ?_
    refine g_aload_n d_M_look_92 rfl rfl ?_
    refine g_iconst (v := nI 1) d_M_look_93 (by decide) ?_
    refine g_put d_M_look_94 fM_1 rfl rfl rfl rfl ?_
    refine g_iconst (v := nI 0) d_M_look_97 (by decide) ?_
    refine g_iret d_M_look_98 rfl rfl ?_
    exact ⟨rfl, by rw [su_su]⟩
  · rw [if_neg (fun h9 => absurd (Int32.lt_of_le_of_lt h h9) (by decide)), if_pos h]
    refine g_tableOut (tgt := 92) d_M_look_6 (Or.inr (by have := Int32.le_iff_toInt_le.mp h; rw [nI_toInt (by decide)] at this; omega)) (by decide) ?_
    refine g_aload_n d_M_look_92 rfl rfl ?_
    refine g_iconst (v := nI 1) d_M_look_93 (by decide) ?_
    refine g_put d_M_look_94 fM_1 rfl rfl rfl rfl ?_
    refine g_iconst (v := nI 0) d_M_look_97 (by decide) ?_
    refine g_iret d_M_look_98 rfl rfl ?_
    exact ⟨rfl, by rw [su_su]⟩
  · rw [if_neg (nI_pos (by omega)), if_neg (nI_ge hj (by decide)), nI_clamp (by omega)]
    rcases (show j = 0 ∨ j = 1 ∨ j = 2 ∨ j = 3 ∨ j = 4 ∨ j = 5 ∨ j = 6 ∨ j = 7 by omega) with rfl | rfl | rfl | rfl | rfl | rfl | rfl | rfl
    · refine g_tableIn (tgt := 52) d_M_look_6 (by decide) (by decide) (off := 46) (by decide) (by decide) ?_
      refine g_aload_n d_M_look_52 rfl rfl ?_
      refine g_get d_M_look_53 fM_244 rfl ?_
      refine g_iret d_M_look_56 rfl rfl ?_
      exact ⟨rfl, rfl⟩
    · refine g_tableIn (tgt := 57) d_M_look_6 (by decide) (by decide) (off := 51) (by decide) (by decide) ?_
      refine g_aload_n d_M_look_57 rfl rfl ?_
      refine g_get d_M_look_58 fM_247 rfl ?_
      refine g_iret d_M_look_61 rfl rfl ?_
      exact ⟨rfl, rfl⟩
    · refine g_tableIn (tgt := 62) d_M_look_6 (by decide) (by decide) (off := 56) (by decide) (by decide) ?_
      refine g_aload_n d_M_look_62 rfl rfl ?_
      refine g_get d_M_look_63 fM_41 rfl ?_
      refine g_iret d_M_look_66 rfl rfl ?_
      exact ⟨rfl, rfl⟩
    · refine g_tableIn (tgt := 67) d_M_look_6 (by decide) (by decide) (off := 61) (by decide) (by decide) ?_
      refine g_aload_n d_M_look_67 rfl rfl ?_
      refine g_get d_M_look_68 fM_222 rfl ?_
      refine g_iret d_M_look_71 rfl rfl ?_
      exact ⟨rfl, rfl⟩
    · refine g_tableIn (tgt := 72) d_M_look_6 (by decide) (by decide) (off := 66) (by decide) (by decide) ?_
      refine g_aload_n d_M_look_72 rfl rfl ?_
      refine g_get d_M_look_73 fM_181 rfl ?_
      refine g_iret d_M_look_76 rfl rfl ?_
      exact ⟨rfl, rfl⟩
    · refine g_tableIn (tgt := 77) d_M_look_6 (by decide) (by decide) (off := 71) (by decide) (by decide) ?_
      refine g_aload_n d_M_look_77 rfl rfl ?_
      refine g_get d_M_look_78 fM_196 rfl ?_
      refine g_iret d_M_look_81 rfl rfl ?_
      exact ⟨rfl, rfl⟩
    · refine g_tableIn (tgt := 82) d_M_look_6 (by decide) (by decide) (off := 76) (by decide) (by decide) ?_
      refine g_aload_n d_M_look_82 rfl rfl ?_
      refine g_get d_M_look_83 fM_157 rfl ?_
      refine g_iret d_M_look_86 rfl rfl ?_
      exact ⟨rfl, rfl⟩
    · refine g_tableIn (tgt := 87) d_M_look_6 (by decide) (by decide) (off := 81) (by decide) (by decide) ?_
      refine g_aload_n d_M_look_87 rfl rfl ?_
      refine g_get d_M_look_88 fM_151 rfl ?_
      refine g_iret d_M_look_91 rfl rfl ?_
      exact ⟨rfl, rfl⟩
def fShn (σ : Sg) (k w : Int32) : Int32 × Sg := if fNP σ k = 0 then (if w < 0 then (nI 0, su σ 0 0 (nI 1)) else if w ≤ nI 3 then (σ 19 (4 * k.toNatClampNeg + w.toNatClampNeg), su σ 0 0 (nI 0)) else (nI 0, su σ 0 0 (nI 1))) else (nI 0, su σ 0 0 (nI 1))
theorem np_in {σ : Sg} {k : Int32} (h : fNP σ k = 0) : ∃ j, j < 20 ∧ k = nI j ∧ ¬ σ 22 0 ≤ k := by
  unfold fNP at h
  split at h
  · exact absurd h (by decide)
  · rename_i h1
    split at h
    · exact absurd h (by decide)
    · rename_i h2
      split at h
      · rename_i h3
        obtain ⟨j, hj, rfl⟩ := nI_of h1
        exact ⟨j, (nI_ltI hj (by decide)).mp h3, rfl, h2⟩
      · exact absurd h (by decide)
theorem nl_in {σ : Sg} {k p : Int32} (h : fNL σ k p = 0) : fNP σ k = 0 ∧ ∃ j, j < 3 ∧ p = nI j := by
  unfold fNL at h
  split at h
  · exact absurd h (by decide)
  · rename_i h1
    split at h
    · exact absurd h (by decide)
    · rename_i h2
      split at h
      · rename_i h3
        obtain ⟨j, hj, rfl⟩ := nI_of h2
        exact ⟨Classical.byContradiction h1, j, by have := (nI_leI hj (by decide)).mp h3; omega, rfl⟩
      · exact absurd h (by decide)
theorem m_shown {s0 : State} {l : Launch} {m : Nat} {σ : Sg} {k w : Int32} : GC s0 l M_M_shown m [.int k, .int w] σ (fun r σ' => r = some (.int (fShn σ k w).1) ∧ σ' = (fShn σ k w).2) := by
  refine g_in (by decide) rfl rfl (Nat.le_of_ble_eq_true rfl) (fun hB => ?_)
  refine g_aload_n d_M_shown_0 rfl rfl ?_
  refine g_iconst (v := nI 0) d_M_shown_1 (by decide) ?_
  refine g_put d_M_shown_2 fM_1 rfl rfl rfl rfl ?_
  refine g_aload_n d_M_shown_5 rfl rfl ?_
  refine g_iload_n d_M_shown_6 rfl rfl ?_
  refine g_calli (As := [_]) d_M_shown_7 lM_264 mv_M_noPicture rfl rfl rfl (Nat.le_of_ble_eq_true rfl) (by decide) (m_noPicture) ?_
  refine g_if_ne (tgt := 22) d_M_shown_10 (by decide) (fun c_10 => ?_) (fun c_10 => ?_)
  · skip
    refine g_aload_n d_M_shown_22 rfl rfl ?_
    refine g_iconst (v := nI 1) d_M_shown_23 (by decide) ?_
    refine g_put d_M_shown_24 fM_1 rfl rfl rfl rfl ?_
    refine g_iconst (v := nI 0) d_M_shown_27 (by decide) ?_
    refine g_iret d_M_shown_28 rfl rfl ?_
    unfold fShn
    first
      | (rw [if_neg (show ¬ fNP σ k = 0 from c_10)]; exact ⟨rfl, by rw [su_su]⟩)
      | (rw [if_pos (show fNP σ k = 0 from c_10), if_pos c_14]; exact ⟨rfl, by rw [su_su]⟩)
      | (rw [if_pos (show fNP σ k = 0 from c_10), if_neg c_14, if_neg c_19]; exact ⟨rfl, by rw [su_su]⟩)
  · skip
    refine g_iload_n d_M_shown_13 rfl rfl ?_
    refine g_if_lt (tgt := 22) d_M_shown_14 (by decide) (fun c_14 => ?_) (fun c_14 => ?_)
    · skip
      refine g_aload_n d_M_shown_22 rfl rfl ?_
      refine g_iconst (v := nI 1) d_M_shown_23 (by decide) ?_
      refine g_put d_M_shown_24 fM_1 rfl rfl rfl rfl ?_
      refine g_iconst (v := nI 0) d_M_shown_27 (by decide) ?_
      refine g_iret d_M_shown_28 rfl rfl ?_
      unfold fShn
      first
        | (rw [if_neg (show ¬ fNP σ k = 0 from c_10)]; exact ⟨rfl, by rw [su_su]⟩)
        | (rw [if_pos (show fNP σ k = 0 from c_10), if_pos c_14]; exact ⟨rfl, by rw [su_su]⟩)
        | (rw [if_pos (show fNP σ k = 0 from c_10), if_neg c_14, if_neg c_19]; exact ⟨rfl, by rw [su_su]⟩)
    · skip
      refine g_iload_n d_M_shown_17 rfl rfl ?_
      refine g_iconst (v := nI 3) d_M_shown_18 (by decide) ?_
      refine g_icmp_le (tgt := 29) d_M_shown_19 (by decide) (fun c_19 => ?_) (fun c_19 => ?_)
      · skip
        have c10 : fNP σ k = 0 := c_10
        obtain ⟨j, hj, rfl, -⟩ := np_in c10
        obtain ⟨w9, hw9, rfl⟩ := nI_of c_14
        have hw3 := (nI_leI hw9 (by decide)).mp c_19
        unfold fShn
        rw [if_pos c10, if_neg c_14, if_pos c_19, nI_clamp (show j < 2 ^ 31 by omega), nI_clamp hw9]
        refine g_aload_n d_M_shown_29 rfl rfl ?_
        refine g_getA d_M_shown_30 fM_47 (by decide) ?_
        refine g_iconst (v := nI 4) d_M_shown_33 (by decide) ?_
        refine g_iload_n d_M_shown_34 rfl rfl ?_
        refine g_imulN d_M_shown_35  ?_
        refine g_iload_n d_M_shown_36 rfl rfl ?_
        refine g_iaddN d_M_shown_37  ?_
        refine g_iaload (k := 19) d_M_shown_38 rfl (by decide) (by decide) rfl (vp_in_nI (by show 4 * j + w9 < 80; omega) (by decide)) ?_
        refine g_iret d_M_shown_39 rfl rfl ?_
        rw [nI_clamp (by omega)]
        exact ⟨rfl, rfl⟩
      · skip
        refine g_aload_n d_M_shown_22 rfl rfl ?_
        refine g_iconst (v := nI 1) d_M_shown_23 (by decide) ?_
        refine g_put d_M_shown_24 fM_1 rfl rfl rfl rfl ?_
        refine g_iconst (v := nI 0) d_M_shown_27 (by decide) ?_
        refine g_iret d_M_shown_28 rfl rfl ?_
        unfold fShn
        first
          | (rw [if_neg (show ¬ fNP σ k = 0 from c_10)]; exact ⟨rfl, by rw [su_su]⟩)
          | (rw [if_pos (show fNP σ k = 0 from c_10), if_pos c_14]; exact ⟨rfl, by rw [su_su]⟩)
          | (rw [if_pos (show fNP σ k = 0 from c_10), if_neg c_14, if_neg c_19]; exact ⟨rfl, by rw [su_su]⟩)

def fDt (σ : Sg) (A B : Nat) (k p x y : Int32) : Int32 := if fNL σ k p = 0 then (if x < 0 then -1 else if y < 0 then -1 else if pW σ p ≤ x then -1 else if y < pH σ p then σ 18 (6144 * k.toNatClampNeg + atN A B p.toNatClampNeg + wdN A p.toNatClampNeg * y.toNatClampNeg + x.toNatClampNeg) &&& nI 255 else -1) else -1
theorem m_dot {s0 : State} {l : Launch} {m : Nat} {σ : Sg} {A B : Nat} {k p x y : Int32} (hD0 : fNL σ k p = 0 → okD σ A B) : GC s0 l M_M_dot m [.int k, .int p, .int x, .int y] σ (fun r σ' => r = some (.int (fDt σ A B k p x y)) ∧ σ' = su σ 0 0 (nI 0)) := by
  refine g_in (by decide) rfl rfl (Nat.le_of_ble_eq_true rfl) (fun hB => ?_)
  refine g_aload_n d_M_dot_0 rfl rfl ?_
  refine g_iconst (v := nI 0) d_M_dot_1 (by decide) ?_
  refine g_put d_M_dot_2 fM_1 rfl rfl rfl rfl ?_
  refine g_aload_n d_M_dot_5 rfl rfl ?_
  refine g_iload_n d_M_dot_6 rfl rfl ?_
  refine g_iload_n d_M_dot_7 rfl rfl ?_
  refine g_calli (As := [_, _]) d_M_dot_8 lM_267 mv_M_noPlane rfl rfl rfl (Nat.le_of_ble_eq_true rfl) (by decide) (m_noPlane) ?_
  refine g_if_ne (tgt := 42) d_M_dot_11 (by decide) (fun c_11 => ?_) (fun c_11 => ?_)
  · skip
    refine g_iconst (v := (-1)) d_M_dot_42 (by decide) ?_
    refine g_iret d_M_dot_43 rfl rfl ?_
    refine ⟨?_, rfl⟩
    unfold fDt
    first
      | rw [if_neg (show ¬ fNL σ k p = 0 from c_11)]
      | rw [if_pos (show fNL σ k p = 0 from c_11), if_pos c_15]
      | rw [if_pos (show fNL σ k p = 0 from c_11), if_neg c_15, if_pos c_20]
      | rw [if_pos (show fNL σ k p = 0 from c_11), if_neg c_15, if_neg c_20, if_pos (show pW σ p ≤ x from c_29)]
      | rw [if_pos (show fNL σ k p = 0 from c_11), if_neg c_15, if_neg c_20, if_neg (show ¬ pW σ p ≤ x from c_29), if_neg (show ¬ y < pH σ p from c_39)]
  · skip
    refine g_iload_n d_M_dot_14 rfl rfl ?_
    refine g_if_lt (tgt := 42) d_M_dot_15 (by decide) (fun c_15 => ?_) (fun c_15 => ?_)
    · skip
      refine g_iconst (v := (-1)) d_M_dot_42 (by decide) ?_
      refine g_iret d_M_dot_43 rfl rfl ?_
      refine ⟨?_, rfl⟩
      unfold fDt
      first
        | rw [if_neg (show ¬ fNL σ k p = 0 from c_11)]
        | rw [if_pos (show fNL σ k p = 0 from c_11), if_pos c_15]
        | rw [if_pos (show fNL σ k p = 0 from c_11), if_neg c_15, if_pos c_20]
        | rw [if_pos (show fNL σ k p = 0 from c_11), if_neg c_15, if_neg c_20, if_pos (show pW σ p ≤ x from c_29)]
        | rw [if_pos (show fNL σ k p = 0 from c_11), if_neg c_15, if_neg c_20, if_neg (show ¬ pW σ p ≤ x from c_29), if_neg (show ¬ y < pH σ p from c_39)]
    · skip
      refine g_iload d_M_dot_18 rfl ?_
      refine g_if_lt (tgt := 42) d_M_dot_20 (by decide) (fun c_20 => ?_) (fun c_20 => ?_)
      · skip
        refine g_iconst (v := (-1)) d_M_dot_42 (by decide) ?_
        refine g_iret d_M_dot_43 rfl rfl ?_
        refine ⟨?_, rfl⟩
        unfold fDt
        first
          | rw [if_neg (show ¬ fNL σ k p = 0 from c_11)]
          | rw [if_pos (show fNL σ k p = 0 from c_11), if_pos c_15]
          | rw [if_pos (show fNL σ k p = 0 from c_11), if_neg c_15, if_pos c_20]
          | rw [if_pos (show fNL σ k p = 0 from c_11), if_neg c_15, if_neg c_20, if_pos (show pW σ p ≤ x from c_29)]
          | rw [if_pos (show fNL σ k p = 0 from c_11), if_neg c_15, if_neg c_20, if_neg (show ¬ pW σ p ≤ x from c_29), if_neg (show ¬ y < pH σ p from c_39)]
      · skip
        refine g_iload_n d_M_dot_23 rfl rfl ?_
        refine g_aload_n d_M_dot_24 rfl rfl ?_
        refine g_iload_n d_M_dot_25 rfl rfl ?_
        refine g_calli (As := [_]) d_M_dot_26 lM_51 mv_M_planeWidth rfl rfl rfl (Nat.le_of_ble_eq_true rfl) (by decide) (m_planeWidth) ?_
        refine g_icmp_ge (tgt := 42) d_M_dot_29 (by decide) (fun c_29 => ?_) (fun c_29 => ?_)
        · skip
          refine g_iconst (v := (-1)) d_M_dot_42 (by decide) ?_
          refine g_iret d_M_dot_43 rfl rfl ?_
          refine ⟨?_, rfl⟩
          unfold fDt
          first
            | rw [if_neg (show ¬ fNL σ k p = 0 from c_11)]
            | rw [if_pos (show fNL σ k p = 0 from c_11), if_pos c_15]
            | rw [if_pos (show fNL σ k p = 0 from c_11), if_neg c_15, if_pos c_20]
            | rw [if_pos (show fNL σ k p = 0 from c_11), if_neg c_15, if_neg c_20, if_pos (show pW σ p ≤ x from c_29)]
            | rw [if_pos (show fNL σ k p = 0 from c_11), if_neg c_15, if_neg c_20, if_neg (show ¬ pW σ p ≤ x from c_29), if_neg (show ¬ y < pH σ p from c_39)]
        · skip
          refine g_iload d_M_dot_32 rfl ?_
          refine g_aload_n d_M_dot_34 rfl rfl ?_
          refine g_iload_n d_M_dot_35 rfl rfl ?_
          refine g_calli (As := [_]) d_M_dot_36 lM_54 mv_M_planeHeight rfl rfl rfl (Nat.le_of_ble_eq_true rfl) (by decide) (m_planeHeight) ?_
          refine g_icmp_lt (tgt := 44) d_M_dot_39 (by decide) (fun c_39 => ?_) (fun c_39 => ?_)
          · skip
            have c11 : fNL σ k p = 0 := c_11
            have hD := hD0 c11
            have hD2 : okD (su σ 0 0 (nI 0)) A B := hD
            have c29 : ¬ pW σ p ≤ x := c_29
            have c39 : y < pH σ p := c_39
            unfold fDt
            rw [if_pos c11, if_neg c_15, if_neg c_20, if_neg c29, if_pos c39]
            obtain ⟨c0, P, hP, rfl⟩ := nl_in c11
            obtain ⟨K, hK, rfl, -⟩ := np_in c0
            obtain ⟨X, hX, rfl⟩ := nI_of c_15
            obtain ⟨Y, hY, rfl⟩ := nI_of c_20
            rw [pW_n hD (by omega)] at c29
            rw [pH_n hD (by omega)] at c39
            have hw1 : wdN A P ≤ 64 := by unfold wdN; split <;> (have := hD.2.2; omega)
            have hw2 : wdN B P ≤ 64 := by unfold wdN; split <;> (have := hD.2.2; omega)
            have hX2 : X < wdN A P := Nat.lt_of_not_le (fun h9 => c29 (nI_le h9 hX))
            have hY2 : Y < wdN B P := (nI_ltI hY (by omega)).mp c39
            have hi := idx_lt ⟨hD.2.2.1, hD.2.2.2.1⟩ ⟨hD.2.2.2.2.1, hD.2.2.2.2.2⟩ hP hX2 hY2
            rw [nI_clamp (show P < 2 ^ 31 by omega), nI_clamp (show K < 2 ^ 31 by omega), nI_clamp hX, nI_clamp hY]
            refine g_aload_n d_M_dot_44 rfl rfl ?_
            refine g_getA d_M_dot_45 fM_44 (by decide) ?_
            refine g_sipush (v := nI 6144) d_M_dot_48 (by decide) ?_
            refine g_iload_n d_M_dot_51 rfl rfl ?_
            refine g_imulN d_M_dot_52  ?_
            refine g_aload_n d_M_dot_53 rfl rfl ?_
            refine g_iload_n d_M_dot_54 rfl rfl ?_
            refine g_calli (As := [_]) d_M_dot_55 lM_57 mv_M_planeAt rfl rfl rfl (Nat.le_of_ble_eq_true rfl) (by decide) (m_planeAt) ?_
            rw [pA_n hD2 (by omega)]
            refine g_iaddN d_M_dot_58  ?_
            refine g_aload_n d_M_dot_59 rfl rfl ?_
            refine g_iload_n d_M_dot_60 rfl rfl ?_
            refine g_calli (As := [_]) d_M_dot_61 lM_51 mv_M_planeWidth rfl rfl rfl (Nat.le_of_ble_eq_true rfl) (by decide) (m_planeWidth) ?_
            rw [pW_n hD2 (by omega)]
            refine g_iload d_M_dot_64 rfl ?_
            refine g_imulN d_M_dot_66  ?_
            refine g_iaddN d_M_dot_67  ?_
            refine g_iload_n d_M_dot_68 rfl rfl ?_
            refine g_iaddN d_M_dot_69  ?_
            refine g_baload (k := 18) d_M_dot_70 rfl (by decide) (by decide) rfl (vp_in_nI (by show 6144 * K + atN A B P + wdN A P * Y + X < 122880; omega) (by decide)) ?_
            refine g_sipush (v := nI 255) d_M_dot_71 (by decide) ?_
            refine g_iand d_M_dot_74 ?_
            refine g_iret d_M_dot_75 rfl rfl ?_
            rw [nI_clamp (by omega)]
            exact ⟨rfl, rfl⟩
          · skip
            refine g_iconst (v := (-1)) d_M_dot_42 (by decide) ?_
            refine g_iret d_M_dot_43 rfl rfl ?_
            refine ⟨?_, rfl⟩
            unfold fDt
            first
              | rw [if_neg (show ¬ fNL σ k p = 0 from c_11)]
              | rw [if_pos (show fNL σ k p = 0 from c_11), if_pos c_15]
              | rw [if_pos (show fNL σ k p = 0 from c_11), if_neg c_15, if_pos c_20]
              | rw [if_pos (show fNL σ k p = 0 from c_11), if_neg c_15, if_neg c_20, if_pos (show pW σ p ≤ x from c_29)]
              | rw [if_pos (show fNL σ k p = 0 from c_11), if_neg c_15, if_neg c_20, if_neg (show ¬ pW σ p ≤ x from c_29), if_neg (show ¬ y < pH σ p from c_39)]

def fSu (σ : Sg) (A B : Nat) (k p : Int32) : Int32 := if fNL σ k p = 0 then sg (nI 0) (fun i => (σ 18 (6144 * k.toNatClampNeg + atN A B p.toNatClampNeg + i) &&& nI 255) * nI (1 + i)) (wdN A p.toNatClampNeg * wdN B p.toNatClampNeg) else -1
theorem m_sum_l {s0 : State} {l : Launch} {hB : Mem} {m A B K P : Nat} {σ : Sg} (hD : okD σ A B) (hP : P < 3) (hK : K < 20) (i : Nat) (hi : i ≤ wdN A P * wdN B P) : GQ s0 l M_M_sum hB m 21 [some (.ref m), some (.int (nI K)), some (.int (nI P)), some (.int (sg (nI 0) (fun i => (σ 18 (6144 * K + atN A B P + i) &&& nI 255) * nI (1 + i)) i)), some (.int (nI i))] [] σ (fun r σ' => r = some (.int (sg (nI 0) (fun i => (σ 18 (6144 * K + atN A B P + i) &&& nI 255) * nI (1 + i)) (wdN A P * wdN B P))) ∧ σ' = σ) := by
  have hw1 : wdN A P ≤ 64 := by unfold wdN; split <;> (have := hD.2.2; omega)
  have hw2 : wdN B P ≤ 64 := by unfold wdN; split <;> (have := hD.2.2; omega)
  have hww : wdN A P * wdN B P ≤ 4096 := Nat.mul_le_mul hw1 hw2
  have hat : ∀ i, i < wdN A P * wdN B P → atN A B P + i < 6144 := by
    intro i hi
    have h1 : i % wdN A P < wdN A P := Nat.mod_lt _ (wdN_pos hD.2.2.1)
    have h2 : i / wdN A P < wdN B P := Nat.div_lt_of_lt_mul hi
    have h3 := idx_lt ⟨hD.2.2.1, hD.2.2.2.1⟩ ⟨hD.2.2.2.2.1, hD.2.2.2.2.2⟩ hP h1 h2
    have h4 := Nat.div_add_mod i (wdN A P)
    omega
  refine g_loop (wdN A P * wdN B P) (fun _ => σ) (fun i => [some (.ref m), some (.int (nI K)), some (.int (nI P)), some (.int (sg (nI 0) (fun i => (σ 18 (6144 * K + atN A B P + i) &&& nI 255) * nI (1 + i)) i)), some (.int (nI i))]) (fun i hi ih => ?_) ?_ i hi
  · have hi2 := hat i hi
    refine g_iload d_M_sum_21 rfl ?_
    refine g_aload_n d_M_sum_23 rfl rfl ?_
    refine g_iload_n d_M_sum_24 rfl rfl ?_
    refine g_calli (As := [_]) d_M_sum_25 lM_51 mv_M_planeWidth rfl rfl rfl (Nat.le_of_ble_eq_true rfl) (by decide) (m_planeWidth) ?_
    rw [pW_n hD (by omega)]
    refine g_aload_n d_M_sum_28 rfl rfl ?_
    refine g_iload_n d_M_sum_29 rfl rfl ?_
    refine g_calli (As := [_]) d_M_sum_30 lM_54 mv_M_planeHeight rfl rfl rfl (Nat.le_of_ble_eq_true rfl) (by decide) (m_planeHeight) ?_
    rw [pH_n hD (by omega)]
    refine g_imulN d_M_sum_33  ?_
    refine g_icmp_ge (tgt := 74) d_M_sum_34 (by decide) (fun c_34 => ?_) (fun c_34 => ?_)
    · exact absurd ((nI_leI (by omega) (by omega)).mp c_34) (by omega)
    · skip
      refine g_iload_n d_M_sum_37 rfl rfl ?_
      refine g_aload_n d_M_sum_38 rfl rfl ?_
      refine g_getA d_M_sum_39 fM_44 (by decide) ?_
      refine g_sipush (v := nI 6144) d_M_sum_42 (by decide) ?_
      refine g_iload_n d_M_sum_45 rfl rfl ?_
      refine g_imulN d_M_sum_46  ?_
      refine g_aload_n d_M_sum_47 rfl rfl ?_
      refine g_iload_n d_M_sum_48 rfl rfl ?_
      refine g_calli (As := [_]) d_M_sum_49 lM_57 mv_M_planeAt rfl rfl rfl (Nat.le_of_ble_eq_true rfl) (by decide) (m_planeAt) ?_
      rw [pA_n hD (by omega)]
      refine g_iaddN d_M_sum_52  ?_
      refine g_iload d_M_sum_53 rfl ?_
      refine g_iaddN d_M_sum_55  ?_
      refine g_baload (k := 18) d_M_sum_56 rfl (by decide) (by decide) rfl (vp_in_nI (by show 6144 * K + atN A B P + i < 122880; omega) (by decide)) ?_
      refine g_sipush (v := nI 255) d_M_sum_57 (by decide) ?_
      refine g_iand d_M_sum_60 ?_
      refine g_iconst (v := nI 1) d_M_sum_61 (by decide) ?_
      refine g_iload d_M_sum_62 rfl ?_
      refine g_iaddN d_M_sum_64  ?_
      refine g_imul d_M_sum_65 ?_
      refine g_iadd d_M_sum_66 ?_
      refine g_istore_n d_M_sum_67 rfl (Nat.le_of_ble_eq_true rfl) ?_
      first | refine g_iinc1 d_M_sum_68 rfl ?_ | refine g_iinc d_M_sum_68 rfl ?_
      refine g_goto (tgt := 21) d_M_sum_71 (by decide) ?_
      rw [nI_clamp (by omega)]
      exact ih
  · skip
    refine g_iload d_M_sum_21 rfl ?_
    refine g_aload_n d_M_sum_23 rfl rfl ?_
    refine g_iload_n d_M_sum_24 rfl rfl ?_
    refine g_calli (As := [_]) d_M_sum_25 lM_51 mv_M_planeWidth rfl rfl rfl (Nat.le_of_ble_eq_true rfl) (by decide) (m_planeWidth) ?_
    rw [pW_n hD (by omega)]
    refine g_aload_n d_M_sum_28 rfl rfl ?_
    refine g_iload_n d_M_sum_29 rfl rfl ?_
    refine g_calli (As := [_]) d_M_sum_30 lM_54 mv_M_planeHeight rfl rfl rfl (Nat.le_of_ble_eq_true rfl) (by decide) (m_planeHeight) ?_
    rw [pH_n hD (by omega)]
    refine g_imulN d_M_sum_33  ?_
    refine g_icmp_ge (tgt := 74) d_M_sum_34 (by decide) (fun c_34 => ?_) (fun c_34 => ?_)
    · skip
      refine g_iload_n d_M_sum_74 rfl rfl ?_
      refine g_iret d_M_sum_75 rfl rfl ?_
      exact ⟨rfl, rfl⟩
    · exact absurd (nI_le (Nat.le_refl _) (by omega)) c_34
theorem m_sum {s0 : State} {l : Launch} {m : Nat} {σ : Sg} {A B : Nat} {k p : Int32} (hD0 : fNL σ k p = 0 → okD σ A B) : GC s0 l M_M_sum m [.int k, .int p] σ (fun r σ' => r = some (.int (fSu σ A B k p)) ∧ σ' = su σ 0 0 (nI 0)) := by
  refine g_in (by decide) rfl rfl (Nat.le_of_ble_eq_true rfl) (fun hB => ?_)
  refine g_aload_n d_M_sum_0 rfl rfl ?_
  refine g_iconst (v := nI 0) d_M_sum_1 (by decide) ?_
  refine g_put d_M_sum_2 fM_1 rfl rfl rfl rfl ?_
  refine g_aload_n d_M_sum_5 rfl rfl ?_
  refine g_iload_n d_M_sum_6 rfl rfl ?_
  refine g_iload_n d_M_sum_7 rfl rfl ?_
  refine g_calli (As := [_, _]) d_M_sum_8 lM_267 mv_M_noPlane rfl rfl rfl (Nat.le_of_ble_eq_true rfl) (by decide) (m_noPlane) ?_
  refine g_if_eq (tgt := 16) d_M_sum_11 (by decide) (fun c_11 => ?_) (fun c_11 => ?_)
  · skip
    refine g_iconst (v := nI 0) d_M_sum_16 (by decide) ?_
    refine g_istore_n d_M_sum_17 rfl (Nat.le_of_ble_eq_true rfl) ?_
    refine g_iconst (v := nI 0) d_M_sum_18 (by decide) ?_
    refine g_istore d_M_sum_19 (Nat.le_of_ble_eq_true rfl) ?_
    have c11 : fNL σ k p = 0 := c_11
    have hD := hD0 c11
    unfold fSu
    rw [if_pos c11]
    obtain ⟨c0, P, hP, rfl⟩ := nl_in c11
    obtain ⟨K, hK, rfl, -⟩ := np_in c0
    rw [nI_clamp (show P < 2 ^ 31 by omega), nI_clamp (show K < 2 ^ 31 by omega)]
    have hD2 : okD (su σ 0 0 (nI 0)) A B := hD
    exact m_sum_l hD2 hP hK 0 (Nat.zero_le _)
  · skip
    refine g_iconst (v := (-1)) d_M_sum_14 (by decide) ?_
    refine g_iret d_M_sum_15 rfl rfl ?_
    unfold fSu
    rw [if_neg (show ¬ fNL σ k p = 0 from c_11)]
    exact ⟨rfl, rfl⟩

