/-! ===== picture, lands, stream ===== -/
def pcS (σ : Sg) : Sg := su (fNA 2 σ).2 34 0 (fNA 2 σ).1
def pcB (σ : Sg) : Prop := (σ 34 0 = nI 2 ∧ σ 12 0 = 0) ∨ (σ 34 0 = nI 3 ∧ σ 13 0 = 0)
def pcQ (σ : Sg) : Sg := su (fNA 5 σ).2 35 0 (fNA 5 σ).1
def pcP (σ : Sg) : Sg := su (su (if σ 34 0 = nI 1 then su σ 36 0 (nI 0) else su (fNA 3 σ).2 36 0 (fNA 3 σ).1) 40 0 (nI 0)) 41 0 (nI 0)
noncomputable def fPic (A B : Nat) (σ : Sg) : Int32 × Sg :=
  if 0 ≤ pcS σ 6 0 then (nI 0, pcS σ) else
  @ite _ (pcB (pcS σ)) (Classical.propDecidable _) (nI 0, fW (pcS σ) (σ 4 0)) (
  if 0 ≤ pcP (pcQ (pcS σ)) 6 0 then (nI 0, pcP (pcQ (pcS σ))) else
  if (fAS A B 16 0 (pcP (pcQ (pcS σ)))).1 = 0 then (nI 0, (fAS A B 16 0 (pcP (pcQ (pcS σ)))).2) else (nI 1, (fAS A B 16 0 (pcP (pcQ (pcS σ)))).2))
theorem kq_pS (σ : Sg) : kq σ (pcS σ) := (kq_na 2 σ).trans (kq.su (by simp) (by decide))
theorem kq_pQ (σ : Sg) : kq σ (pcQ σ) := (kq_na 5 σ).trans (kq.su (by simp) (by decide))
theorem kq_pP (σ : Sg) : kq σ (pcP σ) := by
  unfold pcP
  refine kq.trans (kq.trans ?_ (kq.su (by simp) (by decide))) (kq.su (by simp) (by decide))
  split
  · exact kq.su (by simp) (by decide)
  · exact (kq_na 3 σ).trans (kq.su (by simp) (by decide))
theorem kq_pic (A B : Nat) (σ : Sg) : kq σ (fPic A B σ).2 := by
  have h := ((kq_pS σ).trans (kq_pQ _)).trans (kq_pP _)
  unfold fPic
  split
  · exact kq_pS σ
  · split
    · exact (kq_pS σ).trans (kq_fW _ _)
    · split
      · exact h
      · split
        · exact h.trans (kq_as A B 16 0 _)
        · exact h.trans (kq_as A B 16 0 _)

theorem m_picture {s0 : State} {l : Launch} {m : Nat} {σ : Sg} {A B : Nat} (h3 : ok3 A B σ) : GC s0 l M_M_picture m [] σ (fun r σ' => r = some (.int (fPic A B σ).1) ∧ σ' = (fPic A B σ).2) := by
  refine g_in (by decide) rfl rfl (Nat.le_of_ble_eq_true rfl) (fun hB => ?_)
  refine g_aload_n d_M_picture_0 rfl rfl ?_
  refine g_get d_M_picture_1 fM_10 rfl ?_
  refine g_istore_n d_M_picture_4 rfl (Nat.le_of_ble_eq_true rfl) ?_
  refine g_aload_n d_M_picture_5 rfl rfl ?_
  refine g_aload_n d_M_picture_6 rfl rfl ?_
  refine g_iconst (v := nI 2) d_M_picture_7 (by decide) ?_
  refine g_calli (As := [_]) d_M_picture_8 lM_167 mv_M_numberAbove rfl rfl rfl (Nat.le_of_ble_eq_true rfl) (by decide) (m_numberAbove h3.2.1.1 (by decide)) ?_
  refine g_put d_M_picture_11 fM_70 rfl rfl rfl rfl ?_
  refine g_st (τ := pcS σ) rfl ?_
  unfold fPic
  refine g_aload_n d_M_picture_14 rfl rfl ?_
  refine g_get d_M_picture_15 fM_7 rfl ?_
  refine g_if_lt (tgt := 23) d_M_picture_18 (by decide) (fun c_18 => ?_) (fun c_18 => ?_)
  · skip
    rw [if_neg (Int32.not_le.mpr c_18)]
    refine g_aload_n d_M_picture_23 rfl rfl ?_
    refine g_get d_M_picture_24 fM_70 rfl ?_
    refine g_iconst (v := nI 2) d_M_picture_27 (by decide) ?_
    refine g_icmp_ne (tgt := 38) d_M_picture_28 (by decide) (fun c_28 => ?_) (fun c_28 => ?_)
    · skip
      refine g_aload_n d_M_picture_38 rfl rfl ?_
      refine g_get d_M_picture_39 fM_70 rfl ?_
      refine g_iconst (v := nI 3) d_M_picture_42 (by decide) ?_
      refine g_icmp_ne (tgt := 63) d_M_picture_43 (by decide) (fun c_43 => ?_) (fun c_43 => ?_)
      · skip
        have hB0 : ¬ pcB (pcS σ) := by
          rintro (⟨h8, h9⟩ | ⟨h8, h9⟩)
          · first
              | exact c_28 h8
              | exact c_35 h9
          · first
              | exact c_43 h8
              | exact c_50 h9
        rw [if_neg hB0]
        refine g_aload_n d_M_picture_63 rfl rfl ?_
        refine g_aload_n d_M_picture_64 rfl rfl ?_
        refine g_iconst (v := nI 5) d_M_picture_65 (by decide) ?_
        refine g_calli (As := [_]) d_M_picture_66 lM_167 mv_M_numberAbove rfl rfl rfl (Nat.le_of_ble_eq_true rfl) (by decide) (m_numberAbove (h3.q (kq_pS σ)).2.1.1 (by decide)) ?_
        refine g_put d_M_picture_69 fM_135 rfl rfl rfl rfl ?_
        refine g_st (τ := pcQ (pcS σ)) rfl ?_
        refine g_aload_n d_M_picture_72 rfl rfl ?_
        refine g_aload_n d_M_picture_73 rfl rfl ?_
        refine g_get d_M_picture_74 fM_70 rfl ?_
        refine g_iconst (v := nI 1) d_M_picture_77 (by decide) ?_
        refine g_icmp_ne (tgt := 85) d_M_picture_78 (by decide) (fun c_78 => ?_) (fun c_78 => ?_)
        · skip
          refine g_aload_n d_M_picture_85 rfl rfl ?_
          refine g_iconst (v := nI 3) d_M_picture_86 (by decide) ?_
          refine g_calli (As := [_]) d_M_picture_87 lM_167 mv_M_numberAbove rfl rfl rfl (Nat.le_of_ble_eq_true rfl) (by decide) (m_numberAbove ((h3.q (kq_pS σ)).q (kq_pQ _)).2.1.1 (by decide)) ?_
          refine g_put d_M_picture_90 fM_164 rfl rfl rfl rfl ?_
          refine g_aload_n d_M_picture_93 rfl rfl ?_
          refine g_iconst (v := nI 0) d_M_picture_94 (by decide) ?_
          refine g_put d_M_picture_95 fM_184 rfl rfl rfl rfl ?_
          refine g_aload_n d_M_picture_98 rfl rfl ?_
          refine g_iconst (v := nI 0) d_M_picture_99 (by decide) ?_
          refine g_put d_M_picture_100 fM_199 rfl rfl rfl rfl ?_
          refine g_st (τ := pcP (pcQ (pcS σ))) (by unfold pcP; first | rw [if_pos c_78] | rw [if_neg c_78]) ?_
          refine g_aload_n d_M_picture_103 rfl rfl ?_
          refine g_get d_M_picture_104 fM_7 rfl ?_
          refine g_if_ge (tgt := 121) d_M_picture_107 (by decide) (fun c_107 => ?_) (fun c_107 => ?_)
          · skip
            refine g_iconst (v := nI 0) d_M_picture_121 (by decide) ?_
            refine g_iret d_M_picture_122 rfl rfl ?_
            first
              | (rw [if_pos c_107]; exact ⟨rfl, rfl⟩)
              | (rw [if_neg c_107, if_pos c_114]; exact ⟨rfl, rfl⟩)
              | (rw [if_neg c_107, if_neg c_114]; exact ⟨rfl, rfl⟩)
          · skip
            refine g_aload_n d_M_picture_110 rfl rfl ?_
            refine g_calli (As := []) d_M_picture_111 lM_218 mv_M_allSquares rfl rfl rfl (Nat.le_of_ble_eq_true rfl) (by decide) (m_allSquares (((h3.q (kq_pS σ)).q (kq_pQ _)).q (kq_pP _))) ?_
            refine g_if_eq (tgt := 121) d_M_picture_114 (by decide) (fun c_114 => ?_) (fun c_114 => ?_)
            · skip
              refine g_iconst (v := nI 0) d_M_picture_121 (by decide) ?_
              refine g_iret d_M_picture_122 rfl rfl ?_
              first
                | (rw [if_pos c_107]; exact ⟨rfl, rfl⟩)
                | (rw [if_neg c_107, if_pos c_114]; exact ⟨rfl, rfl⟩)
                | (rw [if_neg c_107, if_neg c_114]; exact ⟨rfl, rfl⟩)
            · skip
              refine g_iconst (v := nI 1) d_M_picture_117 (by decide) ?_
              refine g_goto (tgt := 122) d_M_picture_118 (by decide) ?_
              refine g_iret d_M_picture_122 rfl rfl ?_
              first
                | (rw [if_pos c_107]; exact ⟨rfl, rfl⟩)
                | (rw [if_neg c_107, if_pos c_114]; exact ⟨rfl, rfl⟩)
                | (rw [if_neg c_107, if_neg c_114]; exact ⟨rfl, rfl⟩)
        · skip
          refine g_iconst (v := nI 0) d_M_picture_81 (by decide) ?_
          refine g_goto (tgt := 90) d_M_picture_82 (by decide) ?_
          refine g_put d_M_picture_90 fM_164 rfl rfl rfl rfl ?_
          refine g_aload_n d_M_picture_93 rfl rfl ?_
          refine g_iconst (v := nI 0) d_M_picture_94 (by decide) ?_
          refine g_put d_M_picture_95 fM_184 rfl rfl rfl rfl ?_
          refine g_aload_n d_M_picture_98 rfl rfl ?_
          refine g_iconst (v := nI 0) d_M_picture_99 (by decide) ?_
          refine g_put d_M_picture_100 fM_199 rfl rfl rfl rfl ?_
          refine g_st (τ := pcP (pcQ (pcS σ))) (by unfold pcP; first | rw [if_pos c_78] | rw [if_neg c_78]) ?_
          refine g_aload_n d_M_picture_103 rfl rfl ?_
          refine g_get d_M_picture_104 fM_7 rfl ?_
          refine g_if_ge (tgt := 121) d_M_picture_107 (by decide) (fun c_107 => ?_) (fun c_107 => ?_)
          · skip
            refine g_iconst (v := nI 0) d_M_picture_121 (by decide) ?_
            refine g_iret d_M_picture_122 rfl rfl ?_
            first
              | (rw [if_pos c_107]; exact ⟨rfl, rfl⟩)
              | (rw [if_neg c_107, if_pos c_114]; exact ⟨rfl, rfl⟩)
              | (rw [if_neg c_107, if_neg c_114]; exact ⟨rfl, rfl⟩)
          · skip
            refine g_aload_n d_M_picture_110 rfl rfl ?_
            refine g_calli (As := []) d_M_picture_111 lM_218 mv_M_allSquares rfl rfl rfl (Nat.le_of_ble_eq_true rfl) (by decide) (m_allSquares (((h3.q (kq_pS σ)).q (kq_pQ _)).q (kq_pP _))) ?_
            refine g_if_eq (tgt := 121) d_M_picture_114 (by decide) (fun c_114 => ?_) (fun c_114 => ?_)
            · skip
              refine g_iconst (v := nI 0) d_M_picture_121 (by decide) ?_
              refine g_iret d_M_picture_122 rfl rfl ?_
              first
                | (rw [if_pos c_107]; exact ⟨rfl, rfl⟩)
                | (rw [if_neg c_107, if_pos c_114]; exact ⟨rfl, rfl⟩)
                | (rw [if_neg c_107, if_neg c_114]; exact ⟨rfl, rfl⟩)
            · skip
              refine g_iconst (v := nI 1) d_M_picture_117 (by decide) ?_
              refine g_goto (tgt := 122) d_M_picture_118 (by decide) ?_
              refine g_iret d_M_picture_122 rfl rfl ?_
              first
                | (rw [if_pos c_107]; exact ⟨rfl, rfl⟩)
                | (rw [if_neg c_107, if_pos c_114]; exact ⟨rfl, rfl⟩)
                | (rw [if_neg c_107, if_neg c_114]; exact ⟨rfl, rfl⟩)
      · skip
        refine g_aload_n d_M_picture_46 rfl rfl ?_
        refine g_get d_M_picture_47 fM_215 rfl ?_
        refine g_if_ne (tgt := 63) d_M_picture_50 (by decide) (fun c_50 => ?_) (fun c_50 => ?_)
        · skip
          have hB0 : ¬ pcB (pcS σ) := by
            rintro (⟨h8, h9⟩ | ⟨h8, h9⟩)
            · first
                | exact c_28 h8
                | exact c_35 h9
            · first
                | exact c_43 h8
                | exact c_50 h9
          rw [if_neg hB0]
          refine g_aload_n d_M_picture_63 rfl rfl ?_
          refine g_aload_n d_M_picture_64 rfl rfl ?_
          refine g_iconst (v := nI 5) d_M_picture_65 (by decide) ?_
          refine g_calli (As := [_]) d_M_picture_66 lM_167 mv_M_numberAbove rfl rfl rfl (Nat.le_of_ble_eq_true rfl) (by decide) (m_numberAbove (h3.q (kq_pS σ)).2.1.1 (by decide)) ?_
          refine g_put d_M_picture_69 fM_135 rfl rfl rfl rfl ?_
          refine g_st (τ := pcQ (pcS σ)) rfl ?_
          refine g_aload_n d_M_picture_72 rfl rfl ?_
          refine g_aload_n d_M_picture_73 rfl rfl ?_
          refine g_get d_M_picture_74 fM_70 rfl ?_
          refine g_iconst (v := nI 1) d_M_picture_77 (by decide) ?_
          refine g_icmp_ne (tgt := 85) d_M_picture_78 (by decide) (fun c_78 => ?_) (fun c_78 => ?_)
          · skip
            refine g_aload_n d_M_picture_85 rfl rfl ?_
            refine g_iconst (v := nI 3) d_M_picture_86 (by decide) ?_
            refine g_calli (As := [_]) d_M_picture_87 lM_167 mv_M_numberAbove rfl rfl rfl (Nat.le_of_ble_eq_true rfl) (by decide) (m_numberAbove ((h3.q (kq_pS σ)).q (kq_pQ _)).2.1.1 (by decide)) ?_
            refine g_put d_M_picture_90 fM_164 rfl rfl rfl rfl ?_
            refine g_aload_n d_M_picture_93 rfl rfl ?_
            refine g_iconst (v := nI 0) d_M_picture_94 (by decide) ?_
            refine g_put d_M_picture_95 fM_184 rfl rfl rfl rfl ?_
            refine g_aload_n d_M_picture_98 rfl rfl ?_
            refine g_iconst (v := nI 0) d_M_picture_99 (by decide) ?_
            refine g_put d_M_picture_100 fM_199 rfl rfl rfl rfl ?_
            refine g_st (τ := pcP (pcQ (pcS σ))) (by unfold pcP; first | rw [if_pos c_78] | rw [if_neg c_78]) ?_
            refine g_aload_n d_M_picture_103 rfl rfl ?_
            refine g_get d_M_picture_104 fM_7 rfl ?_
            refine g_if_ge (tgt := 121) d_M_picture_107 (by decide) (fun c_107 => ?_) (fun c_107 => ?_)
            · skip
              refine g_iconst (v := nI 0) d_M_picture_121 (by decide) ?_
              refine g_iret d_M_picture_122 rfl rfl ?_
              first
                | (rw [if_pos c_107]; exact ⟨rfl, rfl⟩)
                | (rw [if_neg c_107, if_pos c_114]; exact ⟨rfl, rfl⟩)
                | (rw [if_neg c_107, if_neg c_114]; exact ⟨rfl, rfl⟩)
            · skip
              refine g_aload_n d_M_picture_110 rfl rfl ?_
              refine g_calli (As := []) d_M_picture_111 lM_218 mv_M_allSquares rfl rfl rfl (Nat.le_of_ble_eq_true rfl) (by decide) (m_allSquares (((h3.q (kq_pS σ)).q (kq_pQ _)).q (kq_pP _))) ?_
              refine g_if_eq (tgt := 121) d_M_picture_114 (by decide) (fun c_114 => ?_) (fun c_114 => ?_)
              · skip
                refine g_iconst (v := nI 0) d_M_picture_121 (by decide) ?_
                refine g_iret d_M_picture_122 rfl rfl ?_
                first
                  | (rw [if_pos c_107]; exact ⟨rfl, rfl⟩)
                  | (rw [if_neg c_107, if_pos c_114]; exact ⟨rfl, rfl⟩)
                  | (rw [if_neg c_107, if_neg c_114]; exact ⟨rfl, rfl⟩)
              · skip
                refine g_iconst (v := nI 1) d_M_picture_117 (by decide) ?_
                refine g_goto (tgt := 122) d_M_picture_118 (by decide) ?_
                refine g_iret d_M_picture_122 rfl rfl ?_
                first
                  | (rw [if_pos c_107]; exact ⟨rfl, rfl⟩)
                  | (rw [if_neg c_107, if_pos c_114]; exact ⟨rfl, rfl⟩)
                  | (rw [if_neg c_107, if_neg c_114]; exact ⟨rfl, rfl⟩)
          · skip
            refine g_iconst (v := nI 0) d_M_picture_81 (by decide) ?_
            refine g_goto (tgt := 90) d_M_picture_82 (by decide) ?_
            refine g_put d_M_picture_90 fM_164 rfl rfl rfl rfl ?_
            refine g_aload_n d_M_picture_93 rfl rfl ?_
            refine g_iconst (v := nI 0) d_M_picture_94 (by decide) ?_
            refine g_put d_M_picture_95 fM_184 rfl rfl rfl rfl ?_
            refine g_aload_n d_M_picture_98 rfl rfl ?_
            refine g_iconst (v := nI 0) d_M_picture_99 (by decide) ?_
            refine g_put d_M_picture_100 fM_199 rfl rfl rfl rfl ?_
            refine g_st (τ := pcP (pcQ (pcS σ))) (by unfold pcP; first | rw [if_pos c_78] | rw [if_neg c_78]) ?_
            refine g_aload_n d_M_picture_103 rfl rfl ?_
            refine g_get d_M_picture_104 fM_7 rfl ?_
            refine g_if_ge (tgt := 121) d_M_picture_107 (by decide) (fun c_107 => ?_) (fun c_107 => ?_)
            · skip
              refine g_iconst (v := nI 0) d_M_picture_121 (by decide) ?_
              refine g_iret d_M_picture_122 rfl rfl ?_
              first
                | (rw [if_pos c_107]; exact ⟨rfl, rfl⟩)
                | (rw [if_neg c_107, if_pos c_114]; exact ⟨rfl, rfl⟩)
                | (rw [if_neg c_107, if_neg c_114]; exact ⟨rfl, rfl⟩)
            · skip
              refine g_aload_n d_M_picture_110 rfl rfl ?_
              refine g_calli (As := []) d_M_picture_111 lM_218 mv_M_allSquares rfl rfl rfl (Nat.le_of_ble_eq_true rfl) (by decide) (m_allSquares (((h3.q (kq_pS σ)).q (kq_pQ _)).q (kq_pP _))) ?_
              refine g_if_eq (tgt := 121) d_M_picture_114 (by decide) (fun c_114 => ?_) (fun c_114 => ?_)
              · skip
                refine g_iconst (v := nI 0) d_M_picture_121 (by decide) ?_
                refine g_iret d_M_picture_122 rfl rfl ?_
                first
                  | (rw [if_pos c_107]; exact ⟨rfl, rfl⟩)
                  | (rw [if_neg c_107, if_pos c_114]; exact ⟨rfl, rfl⟩)
                  | (rw [if_neg c_107, if_neg c_114]; exact ⟨rfl, rfl⟩)
              · skip
                refine g_iconst (v := nI 1) d_M_picture_117 (by decide) ?_
                refine g_goto (tgt := 122) d_M_picture_118 (by decide) ?_
                refine g_iret d_M_picture_122 rfl rfl ?_
                first
                  | (rw [if_pos c_107]; exact ⟨rfl, rfl⟩)
                  | (rw [if_neg c_107, if_pos c_114]; exact ⟨rfl, rfl⟩)
                  | (rw [if_neg c_107, if_neg c_114]; exact ⟨rfl, rfl⟩)
        · skip
          refine g_aload_n d_M_picture_53 rfl rfl ?_
          refine g_iload_n d_M_picture_54 rfl rfl ?_
          refine g_calli (As := [_]) d_M_picture_55 lM_16 mv_M_isWrong rfl rfl rfl (Nat.le_of_ble_eq_true rfl) (by decide) (m_isWrong) ?_
          refine g_if_eq (tgt := 63) d_M_picture_58 (by decide) (fun c_58 => ?_) (fun c_58 => ?_)
          · exact absurd c_58 (by decide)
          · skip
            refine g_iconst (v := nI 0) d_M_picture_61 (by decide) ?_
            refine g_iret d_M_picture_62 rfl rfl ?_
            have hB1 : pcB (pcS σ) := by
              first
                | exact Or.inr ⟨c_43, c_50⟩
                | exact Or.inl ⟨c_28, c_35⟩
            rw [if_pos hB1]
            exact ⟨rfl, rfl⟩
    · skip
      refine g_aload_n d_M_picture_31 rfl rfl ?_
      refine g_get d_M_picture_32 fM_212 rfl ?_
      refine g_if_eq (tgt := 53) d_M_picture_35 (by decide) (fun c_35 => ?_) (fun c_35 => ?_)
      · skip
        refine g_aload_n d_M_picture_53 rfl rfl ?_
        refine g_iload_n d_M_picture_54 rfl rfl ?_
        refine g_calli (As := [_]) d_M_picture_55 lM_16 mv_M_isWrong rfl rfl rfl (Nat.le_of_ble_eq_true rfl) (by decide) (m_isWrong) ?_
        refine g_if_eq (tgt := 63) d_M_picture_58 (by decide) (fun c_58 => ?_) (fun c_58 => ?_)
        · exact absurd c_58 (by decide)
        · skip
          refine g_iconst (v := nI 0) d_M_picture_61 (by decide) ?_
          refine g_iret d_M_picture_62 rfl rfl ?_
          have hB1 : pcB (pcS σ) := by
            first
              | exact Or.inr ⟨c_43, c_50⟩
              | exact Or.inl ⟨c_28, c_35⟩
          rw [if_pos hB1]
          exact ⟨rfl, rfl⟩
      · skip
        refine g_aload_n d_M_picture_38 rfl rfl ?_
        refine g_get d_M_picture_39 fM_70 rfl ?_
        refine g_iconst (v := nI 3) d_M_picture_42 (by decide) ?_
        refine g_icmp_ne (tgt := 63) d_M_picture_43 (by decide) (fun c_43 => ?_) (fun c_43 => ?_)
        · skip
          have hB0 : ¬ pcB (pcS σ) := by
            rintro (⟨h8, h9⟩ | ⟨h8, h9⟩)
            · first
                | exact c_28 h8
                | exact c_35 h9
            · first
                | exact c_43 h8
                | exact c_50 h9
          rw [if_neg hB0]
          refine g_aload_n d_M_picture_63 rfl rfl ?_
          refine g_aload_n d_M_picture_64 rfl rfl ?_
          refine g_iconst (v := nI 5) d_M_picture_65 (by decide) ?_
          refine g_calli (As := [_]) d_M_picture_66 lM_167 mv_M_numberAbove rfl rfl rfl (Nat.le_of_ble_eq_true rfl) (by decide) (m_numberAbove (h3.q (kq_pS σ)).2.1.1 (by decide)) ?_
          refine g_put d_M_picture_69 fM_135 rfl rfl rfl rfl ?_
          refine g_st (τ := pcQ (pcS σ)) rfl ?_
          refine g_aload_n d_M_picture_72 rfl rfl ?_
          refine g_aload_n d_M_picture_73 rfl rfl ?_
          refine g_get d_M_picture_74 fM_70 rfl ?_
          refine g_iconst (v := nI 1) d_M_picture_77 (by decide) ?_
          refine g_icmp_ne (tgt := 85) d_M_picture_78 (by decide) (fun c_78 => ?_) (fun c_78 => ?_)
          · skip
            refine g_aload_n d_M_picture_85 rfl rfl ?_
            refine g_iconst (v := nI 3) d_M_picture_86 (by decide) ?_
            refine g_calli (As := [_]) d_M_picture_87 lM_167 mv_M_numberAbove rfl rfl rfl (Nat.le_of_ble_eq_true rfl) (by decide) (m_numberAbove ((h3.q (kq_pS σ)).q (kq_pQ _)).2.1.1 (by decide)) ?_
            refine g_put d_M_picture_90 fM_164 rfl rfl rfl rfl ?_
            refine g_aload_n d_M_picture_93 rfl rfl ?_
            refine g_iconst (v := nI 0) d_M_picture_94 (by decide) ?_
            refine g_put d_M_picture_95 fM_184 rfl rfl rfl rfl ?_
            refine g_aload_n d_M_picture_98 rfl rfl ?_
            refine g_iconst (v := nI 0) d_M_picture_99 (by decide) ?_
            refine g_put d_M_picture_100 fM_199 rfl rfl rfl rfl ?_
            refine g_st (τ := pcP (pcQ (pcS σ))) (by unfold pcP; first | rw [if_pos c_78] | rw [if_neg c_78]) ?_
            refine g_aload_n d_M_picture_103 rfl rfl ?_
            refine g_get d_M_picture_104 fM_7 rfl ?_
            refine g_if_ge (tgt := 121) d_M_picture_107 (by decide) (fun c_107 => ?_) (fun c_107 => ?_)
            · skip
              refine g_iconst (v := nI 0) d_M_picture_121 (by decide) ?_
              refine g_iret d_M_picture_122 rfl rfl ?_
              first
                | (rw [if_pos c_107]; exact ⟨rfl, rfl⟩)
                | (rw [if_neg c_107, if_pos c_114]; exact ⟨rfl, rfl⟩)
                | (rw [if_neg c_107, if_neg c_114]; exact ⟨rfl, rfl⟩)
            · skip
              refine g_aload_n d_M_picture_110 rfl rfl ?_
              refine g_calli (As := []) d_M_picture_111 lM_218 mv_M_allSquares rfl rfl rfl (Nat.le_of_ble_eq_true rfl) (by decide) (m_allSquares (((h3.q (kq_pS σ)).q (kq_pQ _)).q (kq_pP _))) ?_
              refine g_if_eq (tgt := 121) d_M_picture_114 (by decide) (fun c_114 => ?_) (fun c_114 => ?_)
              · skip
                refine g_iconst (v := nI 0) d_M_picture_121 (by decide) ?_
                refine g_iret d_M_picture_122 rfl rfl ?_
                first
                  | (rw [if_pos c_107]; exact ⟨rfl, rfl⟩)
                  | (rw [if_neg c_107, if_pos c_114]; exact ⟨rfl, rfl⟩)
                  | (rw [if_neg c_107, if_neg c_114]; exact ⟨rfl, rfl⟩)
              · skip
                refine g_iconst (v := nI 1) d_M_picture_117 (by decide) ?_
                refine g_goto (tgt := 122) d_M_picture_118 (by decide) ?_
                refine g_iret d_M_picture_122 rfl rfl ?_
                first
                  | (rw [if_pos c_107]; exact ⟨rfl, rfl⟩)
                  | (rw [if_neg c_107, if_pos c_114]; exact ⟨rfl, rfl⟩)
                  | (rw [if_neg c_107, if_neg c_114]; exact ⟨rfl, rfl⟩)
          · skip
            refine g_iconst (v := nI 0) d_M_picture_81 (by decide) ?_
            refine g_goto (tgt := 90) d_M_picture_82 (by decide) ?_
            refine g_put d_M_picture_90 fM_164 rfl rfl rfl rfl ?_
            refine g_aload_n d_M_picture_93 rfl rfl ?_
            refine g_iconst (v := nI 0) d_M_picture_94 (by decide) ?_
            refine g_put d_M_picture_95 fM_184 rfl rfl rfl rfl ?_
            refine g_aload_n d_M_picture_98 rfl rfl ?_
            refine g_iconst (v := nI 0) d_M_picture_99 (by decide) ?_
            refine g_put d_M_picture_100 fM_199 rfl rfl rfl rfl ?_
            refine g_st (τ := pcP (pcQ (pcS σ))) (by unfold pcP; first | rw [if_pos c_78] | rw [if_neg c_78]) ?_
            refine g_aload_n d_M_picture_103 rfl rfl ?_
            refine g_get d_M_picture_104 fM_7 rfl ?_
            refine g_if_ge (tgt := 121) d_M_picture_107 (by decide) (fun c_107 => ?_) (fun c_107 => ?_)
            · skip
              refine g_iconst (v := nI 0) d_M_picture_121 (by decide) ?_
              refine g_iret d_M_picture_122 rfl rfl ?_
              first
                | (rw [if_pos c_107]; exact ⟨rfl, rfl⟩)
                | (rw [if_neg c_107, if_pos c_114]; exact ⟨rfl, rfl⟩)
                | (rw [if_neg c_107, if_neg c_114]; exact ⟨rfl, rfl⟩)
            · skip
              refine g_aload_n d_M_picture_110 rfl rfl ?_
              refine g_calli (As := []) d_M_picture_111 lM_218 mv_M_allSquares rfl rfl rfl (Nat.le_of_ble_eq_true rfl) (by decide) (m_allSquares (((h3.q (kq_pS σ)).q (kq_pQ _)).q (kq_pP _))) ?_
              refine g_if_eq (tgt := 121) d_M_picture_114 (by decide) (fun c_114 => ?_) (fun c_114 => ?_)
              · skip
                refine g_iconst (v := nI 0) d_M_picture_121 (by decide) ?_
                refine g_iret d_M_picture_122 rfl rfl ?_
                first
                  | (rw [if_pos c_107]; exact ⟨rfl, rfl⟩)
                  | (rw [if_neg c_107, if_pos c_114]; exact ⟨rfl, rfl⟩)
                  | (rw [if_neg c_107, if_neg c_114]; exact ⟨rfl, rfl⟩)
              · skip
                refine g_iconst (v := nI 1) d_M_picture_117 (by decide) ?_
                refine g_goto (tgt := 122) d_M_picture_118 (by decide) ?_
                refine g_iret d_M_picture_122 rfl rfl ?_
                first
                  | (rw [if_pos c_107]; exact ⟨rfl, rfl⟩)
                  | (rw [if_neg c_107, if_pos c_114]; exact ⟨rfl, rfl⟩)
                  | (rw [if_neg c_107, if_neg c_114]; exact ⟨rfl, rfl⟩)
        · exfalso
          have h8 : pcS σ 34 0 = nI 2 := c_28
          have h9 : pcS σ 34 0 = nI 3 := c_43
          rw [h8] at h9
          exact absurd h9 (by decide)
  · skip
    refine g_iconst (v := nI 0) d_M_picture_21 (by decide) ?_
    refine g_iret d_M_picture_22 rfl rfl ?_
    rw [if_pos (Int32.not_lt.mp c_18)]
    exact ⟨rfl, rfl⟩

/-! lands -/
def fCp (σ : Sg) (d s n : Nat) : Sg := sa σ d (fun j => if j < n then σ s j else σ d j)
theorem fCp_0 {σ : Sg} {d s : Nat} : fCp σ d s 0 = σ := sa_self (fun j => by rw [if_neg (by omega)])
theorem fCp_s {σ : Sg} {d s n : Nat} (h : s ≠ d) : su (fCp σ d s n) d n (fCp σ d s n s n) = fCp σ d s (n + 1) := by
  have e : fCp σ d s n s n = σ s n := sa_k h
  rw [e]
  refine su_sa (fun j => ?_)
  by_cases e : j = n
  · rw [if_pos (by omega), if_pos e, e]
  · rw [if_neg e]
    by_cases e2 : j < n
    · rw [if_pos e2, if_pos (by omega)]
    · rw [if_neg e2, if_neg (by omega)]
def fLs (A B : Nat) (σ : Sg) : Sg := fSh σ A B 10 (σ 22 0).toNatClampNeg (σ 14 0) (σ 15 0) (σ 16 0) (σ 17 0)
def ldA (A B : Nat) (σ : Sg) : Sg := if σ 12 0 = 0 then σ else su (fCp (fLs A B σ) 11 10 6144) 13 0 (nI 1)
def ldB (n : Int32) (σ : Sg) : Sg := su (su (su (su (su (fCp σ 10 9 6144) 12 0 (nI 1)) 14 0 (σ 34 0)) 15 0 n) 16 0 (σ 40 0)) 17 0 (σ 41 0)
def ldW (σ : Sg) : Sg := su σ 23 0 (σ 23 0 + nI 1)
def fLd (A B : Nat) (n : Int32) (σ : Sg) : Sg := if σ 34 0 = nI 3 then fSh (ldW σ) A B 9 (σ 22 0).toNatClampNeg (nI 3) n (σ 40 0) (σ 41 0) else ldB n (ldA A B (ldW σ))
abbrev SL : List Nat := [10, 11, 12, 13, 14, 15, 16, 17, 18, 19, 22, 23]
theorem kp_sh (σ : Sg) (A B k sh : Nat) (a b c d : Int32) : kp SL σ (fSh σ A B k sh a b c d) := by
  unfold fSh
  split
  · exact (((((kp.sa (by simp)).trans (kp.su (by simp))).trans (kp.su (by simp))).trans (kp.su (by simp))).trans (kp.su (by simp))).trans (kp.su (by simp))
  · exact kp.su (by simp)
theorem kp_ldA (A B : Nat) (σ : Sg) : kp SL σ (ldA A B σ) := by
  unfold ldA
  split
  · exact kp.refl _ _
  · exact ((kp_sh _ _ _ _ _ _ _ _ _).trans (kp.sa (by simp))).trans (kp.su (by simp))
theorem kp_ldB (n : Int32) (σ : Sg) : kp SL σ (ldB n σ) := (((((kp.sa (by simp)).trans (kp.su (by simp))).trans (kp.su (by simp))).trans (kp.su (by simp))).trans (kp.su (by simp))).trans (kp.su (by simp))
theorem kp_ldW (σ : Sg) : kp SL σ (ldW σ) := kp.su (by simp)
theorem kp_ld (A B : Nat) (n : Int32) (σ : Sg) : kp SL σ (fLd A B n σ) := by
  unfold fLd
  split
  · exact (kp_ldW σ).trans (kp_sh _ _ _ _ _ _ _ _ _)
  · exact ((kp_ldW σ).trans (kp_ldA _ _ _)).trans (kp_ldB _ _)
theorem ok3.kp {A B : Nat} {σ σ' : Sg} (h : ok3 A B σ) (e : kp SL σ σ') : ok3 A B σ' := ⟨h.1.kp e (by decide), h.2.1.kp e (by decide), h.2.2.kp e (by decide)⟩
/-- the number of the pictures shown -/
def shN (σ : Sg) (n : Nat) : Prop := ∃ sh, σ 22 0 = nI sh ∧ sh ≤ n
theorem shN.sh {σ : Sg} {A B k n : Nat} {a b c d : Int32} (h : shN σ n) (hn : n < 2 ^ 30) : shN (fSh σ A B k (σ 22 0).toNatClampNeg a b c d) (n + 1) := by
  obtain ⟨sh, h1, h2⟩ := h
  refine ⟨sh + 1, ?_, by omega⟩
  unfold fSh
  rw [su_at, h1, nI_clamp (by omega)]
theorem shN.ld {σ : Sg} {A B n : Nat} {x : Int32} (h : shN σ n) (hn : n < 2 ^ 30) : shN (fLd A B x σ) (n + 1) := by
  have hW : shN (ldW σ) n := h
  unfold fLd
  split
  · exact hW.sh hn
  · have hA : shN (ldA A B (ldW σ)) (n + 1) := by
      unfold ldA
      split
      · obtain ⟨sh, h1, h2⟩ := hW
        exact ⟨sh, h1, by omega⟩
      · have h9 : shN (fLs A B (ldW σ)) (n + 1) := hW.sh hn
        exact h9
    exact hA
section LD
variable {s0 : State} {l : Launch} {hB : Mem} {m : Nat} {x : Int32} {σ : Sg} {P : Option Value → Sg → Prop}
theorem m_ld_1 (k : GQ s0 l M_M_lands hB m 95 [some (.ref m), some (.int x), some (.int (nI 6144))] [] (fCp σ 11 10 6144) P) : GQ s0 l M_M_lands hB m 70 [some (.ref m), some (.int x), some (.int (nI 0))] [] σ P := by
  have key := g_loop (s0 := s0) (l := l) (M := M_M_lands) (hB := hB) (m := m) (P := P) (pc := 70) 6144 (fun i => fCp σ 11 10 i) (fun i => [some (.ref m), some (.int x), some (.int (nI i))]) (fun i hi ih => ?_) ?_ 0 (Nat.zero_le _)
  · rw [fCp_0] at key
    exact key
  · skip
    refine g_iload_n d_M_lands_70 rfl rfl ?_
    refine g_sipush (v := nI 6144) d_M_lands_71 (by decide) ?_
    refine g_icmp_ge (tgt := 95) d_M_lands_74 (by decide) (fun c_74 => ?_) (fun c_74 => ?_)
    · exact absurd ((nI_leI (by omega) (by omega)).mp c_74) (by omega)
    · skip
      refine g_aload_n d_M_lands_77 rfl rfl ?_
      refine g_getA d_M_lands_78 fM_76 (by decide) ?_
      refine g_iload_n d_M_lands_81 rfl rfl ?_
      refine g_aload_n d_M_lands_82 rfl rfl ?_
      refine g_getA d_M_lands_83 fM_73 (by decide) ?_
      refine g_iload_n d_M_lands_86 rfl rfl ?_
      refine g_iaload (k := 10) d_M_lands_87 rfl (by decide) (by decide) rfl (vp_in_nI (show i < 6144 from hi) (by decide)) ?_
      refine g_iastore (k := 11) d_M_lands_88 rfl (by decide) (by decide) rfl (vp_in_nI (show i < 6144 from hi) (by decide)) ?_
      first | refine g_iinc1 d_M_lands_89 rfl ?_ | refine g_iinc d_M_lands_89 rfl ?_
      refine g_goto (tgt := 70) d_M_lands_92 (by decide) ?_
      rw [nI_clamp (by omega), fCp_s (by decide)]
      exact ih
  · skip
    refine g_iload_n d_M_lands_70 rfl rfl ?_
    refine g_sipush (v := nI 6144) d_M_lands_71 (by decide) ?_
    refine g_icmp_ge (tgt := 95) d_M_lands_74 (by decide) (fun c_74 => ?_) (fun c_74 => ?_)
    · skip
      exact k
    · exact absurd (nI_le (Nat.le_refl 6144) (by decide)) c_74
theorem m_ld_2 (k : GQ s0 l M_M_lands hB m 127 [some (.ref m), some (.int x), some (.int (nI 6144))] [] (fCp σ 10 9 6144) P) : GQ s0 l M_M_lands hB m 102 [some (.ref m), some (.int x), some (.int (nI 0))] [] σ P := by
  have key := g_loop (s0 := s0) (l := l) (M := M_M_lands) (hB := hB) (m := m) (P := P) (pc := 102) 6144 (fun i => fCp σ 10 9 i) (fun i => [some (.ref m), some (.int x), some (.int (nI i))]) (fun i hi ih => ?_) ?_ 0 (Nat.zero_le _)
  · rw [fCp_0] at key
    exact key
  · skip
    refine g_iload_n d_M_lands_102 rfl rfl ?_
    refine g_sipush (v := nI 6144) d_M_lands_103 (by decide) ?_
    refine g_icmp_ge (tgt := 127) d_M_lands_106 (by decide) (fun c_106 => ?_) (fun c_106 => ?_)
    · exact absurd ((nI_leI (by omega) (by omega)).mp c_106) (by omega)
    · skip
      refine g_aload_n d_M_lands_109 rfl rfl ?_
      refine g_getA d_M_lands_110 fM_73 (by decide) ?_
      refine g_iload_n d_M_lands_113 rfl rfl ?_
      refine g_aload_n d_M_lands_114 rfl rfl ?_
      refine g_getA d_M_lands_115 fM_94 (by decide) ?_
      refine g_iload_n d_M_lands_118 rfl rfl ?_
      refine g_iaload (k := 9) d_M_lands_119 rfl (by decide) (by decide) rfl (vp_in_nI (show i < 6144 from hi) (by decide)) ?_
      refine g_iastore (k := 10) d_M_lands_120 rfl (by decide) (by decide) rfl (vp_in_nI (show i < 6144 from hi) (by decide)) ?_
      first | refine g_iinc1 d_M_lands_121 rfl ?_ | refine g_iinc d_M_lands_121 rfl ?_
      refine g_goto (tgt := 102) d_M_lands_124 (by decide) ?_
      rw [nI_clamp (by omega), fCp_s (by decide)]
      exact ih
  · skip
    refine g_iload_n d_M_lands_102 rfl rfl ?_
    refine g_sipush (v := nI 6144) d_M_lands_103 (by decide) ?_
    refine g_icmp_ge (tgt := 127) d_M_lands_106 (by decide) (fun c_106 => ?_) (fun c_106 => ?_)
    · skip
      exact k
    · exact absurd (nI_le (Nat.le_refl 6144) (by decide)) c_106
end LD
theorem okK9 : okK 9 := ⟨by decide, by decide, rfl, rfl⟩
theorem m_lands {s0 : State} {l : Launch} {m : Nat} {σ : Sg} {A B sh : Nat} {x : Int32} (hD : okD σ A B) (hsh : σ 22 0 = nI sh) (hs2 : sh < 2 ^ 30) : GC s0 l M_M_lands m [.int x] σ (fun r σ' => r = none ∧ σ' = fLd A B x σ) := by
  refine g_in (by decide) rfl rfl (Nat.le_of_ble_eq_true rfl) (fun hB => ?_)
  have hc : (σ 22 0).toNatClampNeg = sh := by rw [hsh]; exact nI_clamp (by omega)
  refine g_aload_n d_M_lands_0 rfl rfl ?_
  refine g_dup d_M_lands_1 rfl ?_
  refine g_get d_M_lands_2 fM_222 rfl ?_
  refine g_iconst (v := nI 1) d_M_lands_5 (by decide) ?_
  refine g_iadd d_M_lands_6 ?_
  refine g_put d_M_lands_7 fM_222 rfl rfl rfl rfl ?_
  refine g_aload_n d_M_lands_10 rfl rfl ?_
  refine g_get d_M_lands_11 fM_70 rfl ?_
  refine g_iconst (v := nI 3) d_M_lands_14 (by decide) ?_
  refine g_icmp_ne (tgt := 37) d_M_lands_15 (by decide) (fun c_15 => ?_) (fun c_15 => ?_)
  · skip
    refine g_aload_n d_M_lands_37 rfl rfl ?_
    refine g_get d_M_lands_38 fM_212 rfl ?_
    refine g_if_eq (tgt := 100) d_M_lands_41 (by decide) (fun c_41 => ?_) (fun c_41 => ?_)
    · skip
      refine g_st (τ := ldA A B (ldW σ)) (by unfold ldA; rw [if_pos (show ldW σ 12 0 = 0 from c_41)]; rfl) ?_
      refine g_iconst (v := nI 0) d_M_lands_100 (by decide) ?_
      refine g_istore_n d_M_lands_101 rfl (Nat.le_of_ble_eq_true rfl) ?_
      refine m_ld_2 ?_
      refine g_aload_n d_M_lands_127 rfl rfl ?_
      refine g_iconst (v := nI 1) d_M_lands_128 (by decide) ?_
      refine g_put d_M_lands_129 fM_212 rfl rfl rfl rfl ?_
      refine g_aload_n d_M_lands_132 rfl rfl ?_
      refine g_aload_n d_M_lands_133 rfl rfl ?_
      refine g_get d_M_lands_134 fM_70 rfl ?_
      refine g_put d_M_lands_137 fM_229 rfl rfl rfl rfl ?_
      refine g_aload_n d_M_lands_140 rfl rfl ?_
      refine g_iload_n d_M_lands_141 rfl rfl ?_
      refine g_put d_M_lands_142 fM_232 rfl rfl rfl rfl ?_
      refine g_aload_n d_M_lands_145 rfl rfl ?_
      refine g_aload_n d_M_lands_146 rfl rfl ?_
      refine g_get d_M_lands_147 fM_184 rfl ?_
      refine g_put d_M_lands_150 fM_235 rfl rfl rfl rfl ?_
      refine g_aload_n d_M_lands_153 rfl rfl ?_
      refine g_aload_n d_M_lands_154 rfl rfl ?_
      refine g_get d_M_lands_155 fM_199 rfl ?_
      refine g_put d_M_lands_158 fM_238 rfl rfl rfl rfl ?_
      refine g_vret d_M_lands_161 rfl ?_
      refine ⟨rfl, ?_⟩
      have e34 : ldA A B (ldW σ) 34 0 = σ 34 0 := kp_ldA A B (ldW σ) 34 (by decide) 0
      unfold fLd
      rw [if_neg (show ¬ σ 34 0 = nI 3 from c_15)]
      rfl
    · skip
      refine g_aload_n d_M_lands_44 rfl rfl ?_
      refine g_aload_n d_M_lands_45 rfl rfl ?_
      refine g_getA d_M_lands_46 fM_73 (by decide) ?_
      refine g_aload_n d_M_lands_49 rfl rfl ?_
      refine g_get d_M_lands_50 fM_229 rfl ?_
      refine g_aload_n d_M_lands_53 rfl rfl ?_
      refine g_get d_M_lands_54 fM_232 rfl ?_
      refine g_aload_n d_M_lands_57 rfl rfl ?_
      refine g_get d_M_lands_58 fM_235 rfl ?_
      refine g_aload_n d_M_lands_61 rfl rfl ?_
      refine g_get d_M_lands_62 fM_238 rfl ?_
      refine g_callv (As := [_, _, _, _, _]) d_M_lands_65 lM_225 mv_M_shows rfl rfl rfl (Nat.le_of_ble_eq_true rfl) (by decide) (m_shows (sh := sh) (hD.kp (kp_ldW σ) (by decide)) okK10 (by decide) hsh hs2) ?_
      refine g_iconst (v := nI 0) d_M_lands_68 (by decide) ?_
      refine g_istore_n d_M_lands_69 rfl (Nat.le_of_ble_eq_true rfl) ?_
      refine g_st (τ := fLs A B (ldW σ)) (by unfold fLs; rw [show (ldW σ 22 0).toNatClampNeg = sh from hc]; rfl) ?_
      refine m_ld_1 ?_
      refine g_aload_n d_M_lands_95 rfl rfl ?_
      refine g_iconst (v := nI 1) d_M_lands_96 (by decide) ?_
      refine g_put d_M_lands_97 fM_215 rfl rfl rfl rfl ?_
      refine g_st (τ := ldA A B (ldW σ)) (by unfold ldA; rw [if_neg (show ¬ ldW σ 12 0 = 0 from c_41)]) ?_
      refine g_iconst (v := nI 0) d_M_lands_100 (by decide) ?_
      refine g_istore_n d_M_lands_101 rfl (Nat.le_of_ble_eq_true rfl) ?_
      refine m_ld_2 ?_
      refine g_aload_n d_M_lands_127 rfl rfl ?_
      refine g_iconst (v := nI 1) d_M_lands_128 (by decide) ?_
      refine g_put d_M_lands_129 fM_212 rfl rfl rfl rfl ?_
      refine g_aload_n d_M_lands_132 rfl rfl ?_
      refine g_aload_n d_M_lands_133 rfl rfl ?_
      refine g_get d_M_lands_134 fM_70 rfl ?_
      refine g_put d_M_lands_137 fM_229 rfl rfl rfl rfl ?_
      refine g_aload_n d_M_lands_140 rfl rfl ?_
      refine g_iload_n d_M_lands_141 rfl rfl ?_
      refine g_put d_M_lands_142 fM_232 rfl rfl rfl rfl ?_
      refine g_aload_n d_M_lands_145 rfl rfl ?_
      refine g_aload_n d_M_lands_146 rfl rfl ?_
      refine g_get d_M_lands_147 fM_184 rfl ?_
      refine g_put d_M_lands_150 fM_235 rfl rfl rfl rfl ?_
      refine g_aload_n d_M_lands_153 rfl rfl ?_
      refine g_aload_n d_M_lands_154 rfl rfl ?_
      refine g_get d_M_lands_155 fM_199 rfl ?_
      refine g_put d_M_lands_158 fM_238 rfl rfl rfl rfl ?_
      refine g_vret d_M_lands_161 rfl ?_
      refine ⟨rfl, ?_⟩
      have e34 : ldA A B (ldW σ) 34 0 = σ 34 0 := kp_ldA A B (ldW σ) 34 (by decide) 0
      unfold fLd
      rw [if_neg (show ¬ σ 34 0 = nI 3 from c_15)]
      rfl
  · skip
    refine g_aload_n d_M_lands_18 rfl rfl ?_
    refine g_aload_n d_M_lands_19 rfl rfl ?_
    refine g_getA d_M_lands_20 fM_94 (by decide) ?_
    refine g_iconst (v := nI 3) d_M_lands_23 (by decide) ?_
    refine g_iload_n d_M_lands_24 rfl rfl ?_
    refine g_aload_n d_M_lands_25 rfl rfl ?_
    refine g_get d_M_lands_26 fM_184 rfl ?_
    refine g_aload_n d_M_lands_29 rfl rfl ?_
    refine g_get d_M_lands_30 fM_199 rfl ?_
    refine g_callv (As := [_, _, _, _, _]) d_M_lands_33 lM_225 mv_M_shows rfl rfl rfl (Nat.le_of_ble_eq_true rfl) (by decide) (m_shows (sh := sh) (hD.kp (kp_ldW σ) (by decide)) okK9 (by decide) hsh hs2) ?_
    refine g_vret d_M_lands_36 rfl ?_
    refine ⟨rfl, ?_⟩
    unfold fLd
    rw [if_pos (show σ 34 0 = nI 3 from c_15), hc]
    rfl

/-! stream -/
def at4 (σ : Sg) : Int := (σ 4 0).toInt
theorem bit_a {σ : Sg} (hA : okA σ) (h1 : ¬ 0 ≤ σ 6 0) (h2 : ¬ 0 ≤ (fBit σ).2 6 0) : at4 (fBit σ).2 = at4 σ + 1 := by
  obtain ⟨p, e, b1, b2, b3, b4, b5⟩ := bit_at hA h1 h2
  unfold at4
  rw [b5]
  show (su σ 4 0 (nI (p + 1)) 4 0).toInt = _
  rw [su_at, b1, nI_toInt (by omega), nI_toInt (by omega)]
  omega
theorem if_at {one two : Int32} : ∀ (n : Nat) (a b : Int32) {σ : Sg}, okR σ → ¬ 0 ≤ (fIF one two n a b σ).2 6 0 → at4 (fIF one two n a b σ).2 = at4 σ + n
  | 0, _, _, σ, _, _ => (Int.add_zero _).symm
  | n + 1, a, b, σ, hR, h => by
    unfold fIF at h ⊢
    by_cases h1 : 0 ≤ σ 6 0
    · rw [if_pos h1] at h; exact absurd h1 h
    · rw [if_neg h1] at h ⊢
      by_cases h2 : 0 ≤ (fBit σ).2 6 0
      · rw [if_pos h2] at h; exact absurd h2 h
      · rw [if_neg h2] at h ⊢
        have e := bit_a hR.1 h1 h2
        have e2 : at4 (fW (fBit σ).2 ((fBit σ).2 4 0 - nI 1)) = at4 (fBit σ).2 := by
          unfold fW
          split
          · rfl
          · rfl
        split at h
        · rename_i h3
          rw [if_pos h3]
          split at h
          · rename_i h4
            rw [if_pos h4, if_at n _ _ hR.bit.fW h, e2, e]
            omega
          · rename_i h4
            rw [if_neg h4, if_at n _ _ hR.bit h, e]
            omega
        · rename_i h3
          rw [if_neg h3, if_at n _ _ hR.bit h, e]
          omega
noncomputable def fSt (A B : Nat) : Nat → Nat → Sg → Sg
  | 0, _, σ => σ
  | f + 1, n, σ => if 0 ≤ σ 6 0 then σ else
     if 0 ≤ (fIF (nI 256) (nI 439) 32 (nI 1) (nI 1) σ).2 6 0 then (fIF (nI 256) (nI 439) 32 (nI 1) (nI 1) σ).2 else
     if (fIF (nI 256) (nI 439) 32 (nI 1) (nI 1) σ).1 = 0 then (fIF (nI 256) (nI 439) 32 (nI 1) (nI 1) σ).2 else
     if (fPic A B (fIF (nI 256) (nI 439) 32 (nI 1) (nI 1) σ).2).1 = 0 then fSt A B f (n + 1) (fPic A B (fIF (nI 256) (nI 439) 32 (nI 1) (nI 1) σ).2).2 else
     fSt A B f (n + 1) (fLd A B (nI n) (fPic A B (fIF (nI 256) (nI 439) 32 (nI 1) (nI 1) σ).2).2)
def fFin (A B : Nat) (σ : Sg) : Sg := if σ 12 0 = 0 then σ else fLs A B σ
def stM (σ : Sg) : Sg := (fIF (nI 21074) (nI 21074) 16 (nI 1) (nI 1) σ).2
def stA (σ : Sg) : Int32 := nI 1 + (fNum 2 0 (stM σ)).1
def stB (σ : Sg) : Int32 := nI 1 + (fNum 2 0 (fNum 2 0 (stM σ)).2).1
def stN (σ : Sg) : Sg := (fNum 2 0 (fNum 2 0 (stM σ)).2).2
def stZ (σ : Sg) : Sg := su (su (su (su (stN σ) 7 0 (stA σ)) 8 0 (stB σ)) 20 0 (nI 16 * stA σ)) 21 0 (nI 16 * stB σ)
noncomputable def fStr (σ : Sg) : Sg := if 0 ≤ stM σ 6 0 then stM σ else if 0 ≤ stN σ 6 0 then stN σ else
  fFin (stA σ).toNatClampNeg (stB σ).toNatClampNeg (fSt (stA σ).toNatClampNeg (stB σ).toNatClampNeg 1001 0 (fAl 8 (stZ σ)))
theorem ok3.tk {A B : Nat} {σ σ' : Sg} (h : ok3 A B σ) (e : tk σ σ') (r : okR σ') : ok3 A B σ' := ⟨h.1.tk e, r, h.2.2.eq (fun j => e 37 (by decide) (by decide) j)⟩
theorem shN.tk {σ σ' : Sg} {n : Nat} (h : shN σ n) (e : tk σ σ') : shN σ' n := by
  obtain ⟨sh, h1, h2⟩ := h
  exact ⟨sh, (e 22 (by decide) (by decide) 0).trans h1, h2⟩
theorem shN.q {σ σ' : Sg} {n : Nat} (h : shN σ n) (e : kq σ σ') : shN σ' n := by
  obtain ⟨sh, h1, h2⟩ := h
  exact ⟨sh, (e.1 22 (by decide) 0).trans h1, h2⟩
section SR
variable {s0 : State} {l : Launch} {hB : Mem} {m A B : Nat}
theorem m_st_e {σ : Sg} {y1 y2 y3 y4 y5 : Option Value} {n : Nat} (h3 : ok3 A B σ) (hn : shN σ n) (hn2 : n < 2 ^ 29) : GQ s0 l M_M_stream hB m 133 [some (.ref m), y1, y2, y3, y4, y5] [] σ (fun r σ' => r = none ∧ σ' = fFin A B σ) := by
  obtain ⟨sh, hsh, hs2⟩ := hn
  have hc : (σ 22 0).toNatClampNeg = sh := by rw [hsh]; exact nI_clamp (by omega)
  refine g_aload_n d_M_stream_133 rfl rfl ?_
  refine g_get d_M_stream_134 fM_212 rfl ?_
  refine g_if_eq (tgt := 164) d_M_stream_137 (by decide) (fun c_137 => ?_) (fun c_137 => ?_)
  · skip
    refine g_vret d_M_stream_164 rfl ?_
    refine ⟨rfl, ?_⟩
    unfold fFin
    first
      | rw [if_pos c_137]
      | (rw [if_neg c_137]; unfold fLs; rw [hc])
  · skip
    refine g_aload_n d_M_stream_140 rfl rfl ?_
    refine g_aload_n d_M_stream_141 rfl rfl ?_
    refine g_getA d_M_stream_142 fM_73 (by decide) ?_
    refine g_aload_n d_M_stream_145 rfl rfl ?_
    refine g_get d_M_stream_146 fM_229 rfl ?_
    refine g_aload_n d_M_stream_149 rfl rfl ?_
    refine g_get d_M_stream_150 fM_232 rfl ?_
    refine g_aload_n d_M_stream_153 rfl rfl ?_
    refine g_get d_M_stream_154 fM_235 rfl ?_
    refine g_aload_n d_M_stream_157 rfl rfl ?_
    refine g_get d_M_stream_158 fM_238 rfl ?_
    refine g_callv (As := [_, _, _, _, _]) d_M_stream_161 lM_225 mv_M_shows rfl rfl rfl (Nat.le_of_ble_eq_true rfl) (by decide) (m_shows (sh := sh) h3.1 okK10 (by decide) hsh (by omega)) ?_
    refine g_vret d_M_stream_164 rfl ?_
    refine ⟨rfl, ?_⟩
    unfold fFin
    first
      | rw [if_pos c_137]
      | (rw [if_neg c_137]; unfold fLs; rw [hc])
theorem m_st_l {y1 y2 y3 : Option Value} : ∀ (f n : Nat) (y5 : Option Value) (σ : Sg), ok3 A B σ → shN σ n → n + f ≤ 2000 → 32000 < at4 σ + 32 * f → GQ s0 l M_M_stream hB m 78 [some (.ref m), y1, y2, y3, some (.int (nI n)), y5] [] σ (fun r σ' => r = none ∧ σ' = fFin A B (fSt A B f n σ)) := by
  intro f
  induction f with
  | zero =>
    intro n y5 σ h3 hn hf ha
    exfalso
    obtain ⟨p, e, a1, a2, a3, a4⟩ := h3.2.1.1
    unfold at4 at ha
    rw [a1, nI_toInt (by omega)] at ha
    omega
  | succ f ih =>
    intro n y5 σ h3 hn hf ha
    have hR2 : okR (fIF (nI 256) (nI 439) 32 (nI 1) (nI 1) σ).2 := h3.2.1.if1 32 _ _
    have htk : tk σ (fIF (nI 256) (nI 439) 32 (nI 1) (nI 1) σ).2 := tk_if 32 _ _ σ
    have h4 := h3.tk htk hR2
    have hn4 := hn.tk htk
    unfold fSt
    refine g_aload_n d_M_stream_78 rfl rfl ?_
    refine g_get d_M_stream_79 fM_7 rfl ?_
    refine g_if_ge (tgt := 133) d_M_stream_82 (by decide) (fun c_82 => ?_) (fun c_82 => ?_)
    · skip
      first
        | (rw [if_pos c_82]; exact m_st_e h3 hn (by omega))
        | (rw [if_pos c_103]; exact m_st_e h4 hn4 (by omega))
        | (rw [if_pos c_108]; exact m_st_e h4 hn4 (by omega))
    · skip
      rw [if_neg c_82]
      refine g_aload_n d_M_stream_85 rfl rfl ?_
      refine g_sipush (v := nI 256) d_M_stream_86 (by decide) ?_
      refine g_sipush (v := nI 439) d_M_stream_89 (by decide) ?_
      refine g_bipush (v := nI 32) d_M_stream_92 (by decide) ?_
      refine g_calli (As := [_, _, _]) d_M_stream_94 lM_241 mv_M_isFirst rfl rfl rfl (Nat.le_of_ble_eq_true rfl) (by decide) (m_isFirst h3.2.1.1 (by decide)) ?_
      refine g_istore d_M_stream_97 (Nat.le_of_ble_eq_true rfl) ?_
      refine g_aload_n d_M_stream_99 rfl rfl ?_
      refine g_get d_M_stream_100 fM_7 rfl ?_
      refine g_if_ge (tgt := 133) d_M_stream_103 (by decide) (fun c_103 => ?_) (fun c_103 => ?_)
      · skip
        first
          | (rw [if_pos c_82]; exact m_st_e h3 hn (by omega))
          | (rw [if_pos c_103]; exact m_st_e h4 hn4 (by omega))
          | (rw [if_pos c_108]; exact m_st_e h4 hn4 (by omega))
      · skip
        rw [if_neg c_103]
        have hat := if_at 32 (nI 1) (nI 1) h3.2.1 c_103
        refine g_iload d_M_stream_106 rfl ?_
        refine g_if_ne (tgt := 114) d_M_stream_108 (by decide) (fun c_108 => ?_) (fun c_108 => ?_)
        · skip
          rw [if_neg c_108]
          have h5 : ok3 A B (fPic A B (fIF (nI 256) (nI 439) 32 (nI 1) (nI 1) σ).2).2 := h4.q (kq_pic A B _)
          have hn5 : shN (fPic A B (fIF (nI 256) (nI 439) 32 (nI 1) (nI 1) σ).2).2 n := hn4.q (kq_pic A B _)
          have ha5 : at4 (fIF (nI 256) (nI 439) 32 (nI 1) (nI 1) σ).2 ≤ at4 (fPic A B (fIF (nI 256) (nI 439) 32 (nI 1) (nI 1) σ).2).2 := ((kq_pic A B _).2 hR2).2
          have hn6 := hn5
          obtain ⟨sh, hsh, hsh2⟩ := hn6
          refine g_aload_n d_M_stream_114 rfl rfl ?_
          refine g_calli (As := []) d_M_stream_115 lM_250 mv_M_picture rfl rfl rfl (Nat.le_of_ble_eq_true rfl) (by decide) (m_picture h4) ?_
          refine g_if_eq (tgt := 127) d_M_stream_118 (by decide) (fun c_118 => ?_) (fun c_118 => ?_)
          · skip
            first | refine g_iinc1 d_M_stream_127 rfl ?_ | refine g_iinc d_M_stream_127 rfl ?_
            refine g_goto (tgt := 78) d_M_stream_130 (by decide) ?_
            first
              | (rw [if_pos c_118]
                 refine ih (n + 1) _ _ h5 ?_ (by omega) (by omega)
                 obtain ⟨sh2, g1, g2⟩ := hn5
                 exact ⟨sh2, g1, by omega⟩)
              | (rw [if_neg c_118]
                 refine ih (n + 1) _ _ (h5.kp (kp_ld A B _ _)) (hn5.ld (by omega)) (by omega) ?_
                 have e4 : at4 (fLd A B (nI n) (fPic A B (fIF (nI 256) (nI 439) 32 (nI 1) (nI 1) σ).2).2) = at4 (fPic A B (fIF (nI 256) (nI 439) 32 (nI 1) (nI 1) σ).2).2 := by unfold at4; rw [kp_ld A B _ _ 4 (by decide) 0]
                 omega)
          · skip
            refine g_aload_n d_M_stream_121 rfl rfl ?_
            refine g_iload d_M_stream_122 rfl ?_
            refine g_callv (As := [_]) d_M_stream_124 lM_252 mv_M_lands rfl rfl rfl (Nat.le_of_ble_eq_true rfl) (by decide) (m_lands (sh := sh) h5.1 hsh (by omega)) ?_
            first | refine g_iinc1 d_M_stream_127 rfl ?_ | refine g_iinc d_M_stream_127 rfl ?_
            refine g_goto (tgt := 78) d_M_stream_130 (by decide) ?_
            first
              | (rw [if_pos c_118]
                 refine ih (n + 1) _ _ h5 ?_ (by omega) (by omega)
                 obtain ⟨sh2, g1, g2⟩ := hn5
                 exact ⟨sh2, g1, by omega⟩)
              | (rw [if_neg c_118]
                 refine ih (n + 1) _ _ (h5.kp (kp_ld A B _ _)) (hn5.ld (by omega)) (by omega) ?_
                 have e4 : at4 (fLd A B (nI n) (fPic A B (fIF (nI 256) (nI 439) 32 (nI 1) (nI 1) σ).2).2) = at4 (fPic A B (fIF (nI 256) (nI 439) 32 (nI 1) (nI 1) σ).2).2 := by unfold at4; rw [kp_ld A B _ _ 4 (by decide) 0]
                 omega)
        · skip
          refine g_goto (tgt := 133) d_M_stream_111 (by decide) ?_
          first
            | (rw [if_pos c_82]; exact m_st_e h3 hn (by omega))
            | (rw [if_pos c_103]; exact m_st_e h4 hn4 (by omega))
            | (rw [if_pos c_108]; exact m_st_e h4 hn4 (by omega))
end SR
theorem m_stream {s0 : State} {l : Launch} {m : Nat} {σ : Sg} (hR : okR σ) (hO : okO σ) (hsh : shN σ 0) : GC s0 l M_M_stream m [] σ (fun r σ' => r = none ∧ σ' = fStr σ) := by
  refine g_in (by decide) rfl rfl (Nat.le_of_ble_eq_true rfl) (fun hB => ?_)
  have hR1 : okR (stM σ) := hR.if1 16 _ _
  have hO1 : okO (stM σ) := hO.eq (fun j => tk_if 16 _ _ σ 37 (by decide) (by decide) j)
  have hRN : okR (stN σ) := (hR1.num 2 0).num 2 0
  have htk : tk σ (stN σ) := ((tk_if 16 _ _ σ).trans (tk_num 2 0 _)).trans (tk_num 2 0 _)
  obtain ⟨a, a1, -, a2⟩ := num_rng 2 0 hR1
  obtain ⟨b, b1, -, b2⟩ := num_rng 2 0 (hR1.num 2 0)
  have eA : stA σ = nI (1 + a) := by unfold stA; rw [← nI_add, ← a1]; rfl
  have eB : stB σ = nI (1 + b) := by unfold stB; rw [← nI_add, ← b1]; rfl
  have cA : (stA σ).toNatClampNeg = 1 + a := by rw [eA]; exact nI_clamp (by omega)
  have cB : (stB σ).toNatClampNeg = 1 + b := by rw [eB]; exact nI_clamp (by omega)
  have h3 : ok3 (1 + a) (1 + b) (stZ σ) := ⟨⟨(show stZ σ 7 0 = stA σ from rfl).trans eA, (show stZ σ 8 0 = stB σ from rfl).trans eB, by omega, by omega, by omega, by omega⟩, (((hRN.su (by decide) (by decide) (by decide)).su (by decide) (by decide) (by decide)).su (by decide) (by decide) (by decide)).su (by decide) (by decide) (by decide), hO.eq (fun j => htk 37 (by decide) (by decide) j)⟩
  have h4 : ok3 (1 + a) (1 + b) (fAl 8 (stZ σ)) := h3.q (kq_al 8 _)
  have hsN : shN (fAl 8 (stZ σ)) 0 := by
    obtain ⟨sh, g1, g2⟩ := hsh
    exact ⟨sh, (tk_al 8 (stZ σ) 22 (by decide) (by decide) 0).trans ((htk 22 (by decide) (by decide) 0).trans g1), g2⟩
  refine g_aload_n d_M_stream_0 rfl rfl ?_
  refine g_sipush (v := nI 21074) d_M_stream_1 (by decide) ?_
  refine g_sipush (v := nI 21074) d_M_stream_4 (by decide) ?_
  refine g_bipush (v := nI 16) d_M_stream_7 (by decide) ?_
  refine g_calli (As := [_, _, _]) d_M_stream_9 lM_241 mv_M_isFirst rfl rfl rfl (Nat.le_of_ble_eq_true rfl) (by decide) (m_isFirst hR.1 (by decide)) ?_
  refine g_istore_n d_M_stream_12 rfl (Nat.le_of_ble_eq_true rfl) ?_
  refine g_st (τ := stM σ) rfl ?_
  unfold fStr
  refine g_aload_n d_M_stream_13 rfl rfl ?_
  refine g_get d_M_stream_14 fM_7 rfl ?_
  refine g_if_lt (tgt := 21) d_M_stream_17 (by decide) (fun c_17 => ?_) (fun c_17 => ?_)
  · skip
    rw [if_neg (Int32.not_le.mpr c_17)]
    refine g_iconst (v := nI 1) d_M_stream_21 (by decide) ?_
    refine g_aload_n d_M_stream_22 rfl rfl ?_
    refine g_iconst (v := nI 2) d_M_stream_23 (by decide) ?_
    refine g_calli (As := [_]) d_M_stream_24 lM_28 mv_M_number rfl rfl rfl (Nat.le_of_ble_eq_true rfl) (by decide) (m_number hR1.1 (by decide)) ?_
    refine g_iadd d_M_stream_27 ?_
    refine g_istore_n d_M_stream_28 rfl (Nat.le_of_ble_eq_true rfl) ?_
    refine g_iconst (v := nI 1) d_M_stream_29 (by decide) ?_
    refine g_aload_n d_M_stream_30 rfl rfl ?_
    refine g_iconst (v := nI 2) d_M_stream_31 (by decide) ?_
    refine g_calli (As := [_]) d_M_stream_32 lM_28 mv_M_number rfl rfl rfl (Nat.le_of_ble_eq_true rfl) (by decide) (m_number (hR1.num 2 0).1 (by decide)) ?_
    refine g_iadd d_M_stream_35 ?_
    refine g_istore_n d_M_stream_36 rfl (Nat.le_of_ble_eq_true rfl) ?_
    refine g_st (τ := stN σ) rfl ?_
    refine g_aload_n d_M_stream_37 rfl rfl ?_
    refine g_get d_M_stream_38 fM_7 rfl ?_
    refine g_if_lt (tgt := 45) d_M_stream_41 (by decide) (fun c_41 => ?_) (fun c_41 => ?_)
    · skip
      rw [if_neg (Int32.not_le.mpr c_41), cA, cB]
      refine g_aload_n d_M_stream_45 rfl rfl ?_
      refine g_iload_n d_M_stream_46 rfl rfl ?_
      refine g_put d_M_stream_47 fM_35 rfl rfl rfl rfl ?_
      refine g_aload_n d_M_stream_50 rfl rfl ?_
      refine g_iload_n d_M_stream_51 rfl rfl ?_
      refine g_put d_M_stream_52 fM_38 rfl rfl rfl rfl ?_
      refine g_aload_n d_M_stream_55 rfl rfl ?_
      refine g_bipush (v := nI 16) d_M_stream_56 (by decide) ?_
      refine g_iload_n d_M_stream_58 rfl rfl ?_
      refine g_imul d_M_stream_59 ?_
      refine g_put d_M_stream_60 fM_244 rfl rfl rfl rfl ?_
      refine g_aload_n d_M_stream_63 rfl rfl ?_
      refine g_bipush (v := nI 16) d_M_stream_64 (by decide) ?_
      refine g_iload_n d_M_stream_66 rfl rfl ?_
      refine g_imul d_M_stream_67 ?_
      refine g_put d_M_stream_68 fM_247 rfl rfl rfl rfl ?_
      refine g_st (τ := stZ σ) rfl ?_
      refine g_aload_n d_M_stream_71 rfl rfl ?_
      refine g_callv (As := []) d_M_stream_72 lM_209 mv_M_align rfl rfl rfl (Nat.le_of_ble_eq_true rfl) (by decide) (m_align h3.2.1.1) ?_
      refine g_iconst (v := nI 0) d_M_stream_75 (by decide) ?_
      refine g_istore d_M_stream_76 (Nat.le_of_ble_eq_true rfl) ?_
      refine m_st_l 1001 0 _ _ h4 hsN (by decide) ?_
      have : 0 ≤ at4 (fAl 8 (stZ σ)) := by
        obtain ⟨p, e, g1, g2, g3, g4⟩ := h4.2.1.1
        unfold at4
        rw [g1, nI_toInt (by omega)]
        omega
      omega
    · skip
      refine g_vret d_M_stream_44 rfl ?_
      rw [if_pos (Int32.not_lt.mp c_41)]
      exact ⟨rfl, rfl⟩
  · skip
    refine g_vret d_M_stream_20 rfl ?_
    rw [if_pos (Int32.not_lt.mp c_17)]
    exact ⟨rfl, rfl⟩

