/-! ===== isFirst, shows, wave, factor ===== -/
def nx1 (one : Int32) (n : Nat) (a v : Int32) : Int32 := if a = 0 then nI 0 else if one >>> (nI n &&& 31) &&& nI 1 = v then nI 1 else nI 0
def fIF (one two : Int32) : Nat → Int32 → Int32 → Sg → Int32 × Sg
  | 0, a, _, σ => (a, σ)
  | n + 1, a, b, σ => if 0 ≤ σ 6 0 then (a, σ) else if 0 ≤ (fBit σ).2 6 0 then (nI 0, (fBit σ).2) else
      if nx1 one n a (fBit σ).1 = 0 then (if nx1 two n b (fBit σ).1 = 0 then fIF one two n (nx1 one n a (fBit σ).1) (nx1 two n b (fBit σ).1) (fW (fBit σ).2 ((fBit σ).2 4 0 - nI 1)) else fIF one two n (nx1 one n a (fBit σ).1) (nx1 two n b (fBit σ).1) (fBit σ).2) else fIF one two n (nx1 one n a (fBit σ).1) (nx1 two n b (fBit σ).1) (fBit σ).2
theorem okA.if1 {one two : Int32} : ∀ (n : Nat) (a b : Int32) {σ : Sg}, okA σ → okA (fIF one two n a b σ).2
  | 0, _, _, _, h => h
  | n + 1, a, b, σ, h => by
    unfold fIF
    split
    · exact h
    · split
      · exact h.bit
      · split
        · split
          · exact okA.if1 n _ _ h.bit.fW
          · exact okA.if1 n _ _ h.bit
        · exact okA.if1 n _ _ h.bit
theorem nx1_b {one : Int32} {n : Nat} {a v : Int32} : nx1 one n a v = nI 0 ∨ nx1 one n a v = nI 1 := by
  unfold nx1
  split
  · exact Or.inl rfl
  · split
    · exact Or.inr rfl
    · exact Or.inl rfl
theorem nar01 {x : Int32} (h : x = nI 0 ∨ x = nI 1) : narrow .boolean (.int x) = .int x := by rcases h with rfl | rfl <;> rfl
theorem m_isFirst_l {s0 : State} {l : Launch} {hB : Mem} {m : Nat} {one two w : Int32} : ∀ (n : Nat) (a b : Int32) (y8 y7 : Option Value) (σ : Sg), n < 2 ^ 31 → (a = nI 0 ∨ a = nI 1) → okA σ → GQ s0 l M_M_isFirst hB m 11 [some (.ref m), some (.int one), some (.int two), some (.int w), some (.int a), some (.int b), some (.int (nI n - nI 1)), y7, y8] [] σ (fun r σ' => r = some (.int (fIF one two n a b σ).1) ∧ σ' = (fIF one two n a b σ).2) := by
  intro n
  induction n with
  | zero =>
    intro a b y8 y7 σ hn ha hA
    unfold fIF
    refine g_iload d_M_isFirst_11 rfl ?_
    refine g_if_lt (tgt := 112) d_M_isFirst_13 (by decide) (fun c_13 => ?_) (fun c_13 => ?_)
    · skip
      refine g_iload d_M_isFirst_112 rfl ?_
      refine g_iret d_M_isFirst_114 rfl (nar01 ha) ?_
      exact ⟨rfl, rfl⟩
    · exact absurd (show nI 0 - nI 1 < 0 by decide) c_13
  | succ n ih =>
    intro a b y8 y7 σ hn ha hA
    have e0 : nI (n + 1) - nI 1 = nI n := pk_sub (by omega)
    rw [e0]
    have e1 : nI n + Int32.ofInt (-1) = nI n - nI 1 := by rw [Int32.sub_eq_add_neg]; rfl
    unfold fIF
    refine g_iload d_M_isFirst_11 rfl ?_
    refine g_if_lt (tgt := 112) d_M_isFirst_13 (by decide) (fun c_13 => ?_) (fun c_13 => ?_)
    · exact absurd c_13 (Int32.not_lt.mpr (nI_pos' (by omega)))
    · skip
      refine g_aload_n d_M_isFirst_16 rfl rfl ?_
      refine g_get d_M_isFirst_17 fM_7 rfl ?_
      refine g_if_ge (tgt := 112) d_M_isFirst_20 (by decide) (fun c_20 => ?_) (fun c_20 => ?_)
      · skip
        refine g_iload d_M_isFirst_112 rfl ?_
        refine g_iret d_M_isFirst_114 rfl (nar01 ha) ?_
        rw [if_pos c_20]
        exact ⟨rfl, rfl⟩
      · skip
        refine g_aload_n d_M_isFirst_23 rfl rfl ?_
        refine g_calli (As := []) d_M_isFirst_24 lM_24 mv_M_bit rfl rfl rfl (Nat.le_of_ble_eq_true rfl) (by decide) (m_bit hA) ?_
        refine g_istore d_M_isFirst_27 (Nat.le_of_ble_eq_true rfl) ?_
        refine g_aload_n d_M_isFirst_29 rfl rfl ?_
        refine g_get d_M_isFirst_30 fM_7 rfl ?_
        refine g_if_lt (tgt := 38) d_M_isFirst_33 (by decide) (fun c_33 => ?_) (fun c_33 => ?_)
        · skip
          refine g_iload d_M_isFirst_38 rfl ?_
          refine g_if_eq (tgt := 58) d_M_isFirst_40 (by decide) (fun c_40 => ?_) (fun c_40 => ?_)
          · skip
            refine g_iconst (v := nI 0) d_M_isFirst_58 (by decide) ?_
            have ea : nx1 one n a (fBit σ).1 = nI 0 := by unfold nx1; first | rw [if_pos c_40] | rw [if_neg c_40, if_pos c_51] | rw [if_neg c_40, if_neg c_51]
            refine g_istore d_M_isFirst_59 (Nat.le_of_ble_eq_true rfl) ?_
            refine g_iload d_M_isFirst_61 rfl ?_
            refine g_if_eq (tgt := 81) d_M_isFirst_63 (by decide) (fun c_63 => ?_) (fun c_63 => ?_)
            · skip
              refine g_iconst (v := nI 0) d_M_isFirst_81 (by decide) ?_
              have eb : nx1 two n b (fBit σ).1 = nI 0 := by unfold nx1; first | rw [if_pos c_63] | rw [if_neg c_63, if_pos c_74] | rw [if_neg c_63, if_neg c_74]
              refine g_istore d_M_isFirst_82 (Nat.le_of_ble_eq_true rfl) ?_
              refine g_iload d_M_isFirst_84 rfl ?_
              refine g_if_ne (tgt := 106) d_M_isFirst_86 (by decide) (fun c_86 => ?_) (fun c_86 => ?_)
              · skip
                refine g_iinc d_M_isFirst_106 rfl ?_
                refine g_goto (tgt := 11) d_M_isFirst_109 (by decide) ?_
                rw [if_neg c_20, if_neg (Int32.not_le.mpr c_33), ea, eb]
                have ha2 := nx1_b (one := one) (n := n) (a := a) (v := (fBit σ).1)
                rw [ea] at ha2
                first
                  | exact absurd c_86 (by decide)
                  | exact absurd (by decide) c_86
                  | exact absurd c_91 (by decide)
                  | exact absurd (by decide) c_91
                  | (rw [if_neg c_86]; exact e1 ▸ ih _ _ _ _ _ (by omega) ha2 hA.bit)
                  | (rw [if_pos c_86, if_neg c_91]; exact e1 ▸ ih _ _ _ _ _ (by omega) ha2 hA.bit)
                  | (rw [if_pos c_86, if_pos c_91]; exact e1 ▸ ih _ _ _ _ _ (by omega) ha2 hA.bit.fW)
              · skip
                refine g_iload d_M_isFirst_89 rfl ?_
                refine g_if_ne (tgt := 106) d_M_isFirst_91 (by decide) (fun c_91 => ?_) (fun c_91 => ?_)
                · skip
                  refine g_iinc d_M_isFirst_106 rfl ?_
                  refine g_goto (tgt := 11) d_M_isFirst_109 (by decide) ?_
                  rw [if_neg c_20, if_neg (Int32.not_le.mpr c_33), ea, eb]
                  have ha2 := nx1_b (one := one) (n := n) (a := a) (v := (fBit σ).1)
                  rw [ea] at ha2
                  first
                    | exact absurd c_86 (by decide)
                    | exact absurd (by decide) c_86
                    | exact absurd c_91 (by decide)
                    | exact absurd (by decide) c_91
                    | (rw [if_neg c_86]; exact e1 ▸ ih _ _ _ _ _ (by omega) ha2 hA.bit)
                    | (rw [if_pos c_86, if_neg c_91]; exact e1 ▸ ih _ _ _ _ _ (by omega) ha2 hA.bit)
                    | (rw [if_pos c_86, if_pos c_91]; exact e1 ▸ ih _ _ _ _ _ (by omega) ha2 hA.bit.fW)
                · skip
                  refine g_aload_n d_M_isFirst_94 rfl rfl ?_
                  refine g_aload_n d_M_isFirst_95 rfl rfl ?_
                  refine g_get d_M_isFirst_96 fM_10 rfl ?_
                  refine g_iconst (v := nI 1) d_M_isFirst_99 (by decide) ?_
                  refine g_isub d_M_isFirst_100 ?_
                  refine g_calli (As := [_]) d_M_isFirst_101 lM_16 mv_M_isWrong rfl rfl rfl (Nat.le_of_ble_eq_true rfl) (by decide) (m_isWrong) ?_
                  refine g_istore d_M_isFirst_104 (Nat.le_of_ble_eq_true rfl) ?_
                  refine g_iinc d_M_isFirst_106 rfl ?_
                  refine g_goto (tgt := 11) d_M_isFirst_109 (by decide) ?_
                  rw [if_neg c_20, if_neg (Int32.not_le.mpr c_33), ea, eb]
                  have ha2 := nx1_b (one := one) (n := n) (a := a) (v := (fBit σ).1)
                  rw [ea] at ha2
                  first
                    | exact absurd c_86 (by decide)
                    | exact absurd (by decide) c_86
                    | exact absurd c_91 (by decide)
                    | exact absurd (by decide) c_91
                    | (rw [if_neg c_86]; exact e1 ▸ ih _ _ _ _ _ (by omega) ha2 hA.bit)
                    | (rw [if_pos c_86, if_neg c_91]; exact e1 ▸ ih _ _ _ _ _ (by omega) ha2 hA.bit)
                    | (rw [if_pos c_86, if_pos c_91]; exact e1 ▸ ih _ _ _ _ _ (by omega) ha2 hA.bit.fW)
            · skip
              refine g_iload_n d_M_isFirst_66 rfl rfl ?_
              refine g_iload d_M_isFirst_67 rfl ?_
              refine g_ishr d_M_isFirst_69 ?_
              refine g_iconst (v := nI 1) d_M_isFirst_70 (by decide) ?_
              refine g_iand d_M_isFirst_71 ?_
              refine g_iload d_M_isFirst_72 rfl ?_
              refine g_icmp_ne (tgt := 81) d_M_isFirst_74 (by decide) (fun c_74 => ?_) (fun c_74 => ?_)
              · skip
                refine g_iconst (v := nI 0) d_M_isFirst_81 (by decide) ?_
                have eb : nx1 two n b (fBit σ).1 = nI 0 := by unfold nx1; first | rw [if_pos c_63] | rw [if_neg c_63, if_pos c_74] | rw [if_neg c_63, if_neg c_74]
                refine g_istore d_M_isFirst_82 (Nat.le_of_ble_eq_true rfl) ?_
                refine g_iload d_M_isFirst_84 rfl ?_
                refine g_if_ne (tgt := 106) d_M_isFirst_86 (by decide) (fun c_86 => ?_) (fun c_86 => ?_)
                · skip
                  refine g_iinc d_M_isFirst_106 rfl ?_
                  refine g_goto (tgt := 11) d_M_isFirst_109 (by decide) ?_
                  rw [if_neg c_20, if_neg (Int32.not_le.mpr c_33), ea, eb]
                  have ha2 := nx1_b (one := one) (n := n) (a := a) (v := (fBit σ).1)
                  rw [ea] at ha2
                  first
                    | exact absurd c_86 (by decide)
                    | exact absurd (by decide) c_86
                    | exact absurd c_91 (by decide)
                    | exact absurd (by decide) c_91
                    | (rw [if_neg c_86]; exact e1 ▸ ih _ _ _ _ _ (by omega) ha2 hA.bit)
                    | (rw [if_pos c_86, if_neg c_91]; exact e1 ▸ ih _ _ _ _ _ (by omega) ha2 hA.bit)
                    | (rw [if_pos c_86, if_pos c_91]; exact e1 ▸ ih _ _ _ _ _ (by omega) ha2 hA.bit.fW)
                · skip
                  refine g_iload d_M_isFirst_89 rfl ?_
                  refine g_if_ne (tgt := 106) d_M_isFirst_91 (by decide) (fun c_91 => ?_) (fun c_91 => ?_)
                  · skip
                    refine g_iinc d_M_isFirst_106 rfl ?_
                    refine g_goto (tgt := 11) d_M_isFirst_109 (by decide) ?_
                    rw [if_neg c_20, if_neg (Int32.not_le.mpr c_33), ea, eb]
                    have ha2 := nx1_b (one := one) (n := n) (a := a) (v := (fBit σ).1)
                    rw [ea] at ha2
                    first
                      | exact absurd c_86 (by decide)
                      | exact absurd (by decide) c_86
                      | exact absurd c_91 (by decide)
                      | exact absurd (by decide) c_91
                      | (rw [if_neg c_86]; exact e1 ▸ ih _ _ _ _ _ (by omega) ha2 hA.bit)
                      | (rw [if_pos c_86, if_neg c_91]; exact e1 ▸ ih _ _ _ _ _ (by omega) ha2 hA.bit)
                      | (rw [if_pos c_86, if_pos c_91]; exact e1 ▸ ih _ _ _ _ _ (by omega) ha2 hA.bit.fW)
                  · skip
                    refine g_aload_n d_M_isFirst_94 rfl rfl ?_
                    refine g_aload_n d_M_isFirst_95 rfl rfl ?_
                    refine g_get d_M_isFirst_96 fM_10 rfl ?_
                    refine g_iconst (v := nI 1) d_M_isFirst_99 (by decide) ?_
                    refine g_isub d_M_isFirst_100 ?_
                    refine g_calli (As := [_]) d_M_isFirst_101 lM_16 mv_M_isWrong rfl rfl rfl (Nat.le_of_ble_eq_true rfl) (by decide) (m_isWrong) ?_
                    refine g_istore d_M_isFirst_104 (Nat.le_of_ble_eq_true rfl) ?_
                    refine g_iinc d_M_isFirst_106 rfl ?_
                    refine g_goto (tgt := 11) d_M_isFirst_109 (by decide) ?_
                    rw [if_neg c_20, if_neg (Int32.not_le.mpr c_33), ea, eb]
                    have ha2 := nx1_b (one := one) (n := n) (a := a) (v := (fBit σ).1)
                    rw [ea] at ha2
                    first
                      | exact absurd c_86 (by decide)
                      | exact absurd (by decide) c_86
                      | exact absurd c_91 (by decide)
                      | exact absurd (by decide) c_91
                      | (rw [if_neg c_86]; exact e1 ▸ ih _ _ _ _ _ (by omega) ha2 hA.bit)
                      | (rw [if_pos c_86, if_neg c_91]; exact e1 ▸ ih _ _ _ _ _ (by omega) ha2 hA.bit)
                      | (rw [if_pos c_86, if_pos c_91]; exact e1 ▸ ih _ _ _ _ _ (by omega) ha2 hA.bit.fW)
              · skip
                refine g_iconst (v := nI 1) d_M_isFirst_77 (by decide) ?_
                refine g_goto (tgt := 82) d_M_isFirst_78 (by decide) ?_
                have eb : nx1 two n b (fBit σ).1 = nI 1 := by unfold nx1; first | rw [if_pos c_63] | rw [if_neg c_63, if_pos c_74] | rw [if_neg c_63, if_neg c_74]
                refine g_istore d_M_isFirst_82 (Nat.le_of_ble_eq_true rfl) ?_
                refine g_iload d_M_isFirst_84 rfl ?_
                refine g_if_ne (tgt := 106) d_M_isFirst_86 (by decide) (fun c_86 => ?_) (fun c_86 => ?_)
                · skip
                  refine g_iinc d_M_isFirst_106 rfl ?_
                  refine g_goto (tgt := 11) d_M_isFirst_109 (by decide) ?_
                  rw [if_neg c_20, if_neg (Int32.not_le.mpr c_33), ea, eb]
                  have ha2 := nx1_b (one := one) (n := n) (a := a) (v := (fBit σ).1)
                  rw [ea] at ha2
                  first
                    | exact absurd c_86 (by decide)
                    | exact absurd (by decide) c_86
                    | exact absurd c_91 (by decide)
                    | exact absurd (by decide) c_91
                    | (rw [if_neg c_86]; exact e1 ▸ ih _ _ _ _ _ (by omega) ha2 hA.bit)
                    | (rw [if_pos c_86, if_neg c_91]; exact e1 ▸ ih _ _ _ _ _ (by omega) ha2 hA.bit)
                    | (rw [if_pos c_86, if_pos c_91]; exact e1 ▸ ih _ _ _ _ _ (by omega) ha2 hA.bit.fW)
                · skip
                  refine g_iload d_M_isFirst_89 rfl ?_
                  refine g_if_ne (tgt := 106) d_M_isFirst_91 (by decide) (fun c_91 => ?_) (fun c_91 => ?_)
                  · skip
                    refine g_iinc d_M_isFirst_106 rfl ?_
                    refine g_goto (tgt := 11) d_M_isFirst_109 (by decide) ?_
                    rw [if_neg c_20, if_neg (Int32.not_le.mpr c_33), ea, eb]
                    have ha2 := nx1_b (one := one) (n := n) (a := a) (v := (fBit σ).1)
                    rw [ea] at ha2
                    first
                      | exact absurd c_86 (by decide)
                      | exact absurd (by decide) c_86
                      | exact absurd c_91 (by decide)
                      | exact absurd (by decide) c_91
                      | (rw [if_neg c_86]; exact e1 ▸ ih _ _ _ _ _ (by omega) ha2 hA.bit)
                      | (rw [if_pos c_86, if_neg c_91]; exact e1 ▸ ih _ _ _ _ _ (by omega) ha2 hA.bit)
                      | (rw [if_pos c_86, if_pos c_91]; exact e1 ▸ ih _ _ _ _ _ (by omega) ha2 hA.bit.fW)
                  · skip
                    refine g_aload_n d_M_isFirst_94 rfl rfl ?_
                    refine g_aload_n d_M_isFirst_95 rfl rfl ?_
                    refine g_get d_M_isFirst_96 fM_10 rfl ?_
                    refine g_iconst (v := nI 1) d_M_isFirst_99 (by decide) ?_
                    refine g_isub d_M_isFirst_100 ?_
                    refine g_calli (As := [_]) d_M_isFirst_101 lM_16 mv_M_isWrong rfl rfl rfl (Nat.le_of_ble_eq_true rfl) (by decide) (m_isWrong) ?_
                    refine g_istore d_M_isFirst_104 (Nat.le_of_ble_eq_true rfl) ?_
                    refine g_iinc d_M_isFirst_106 rfl ?_
                    refine g_goto (tgt := 11) d_M_isFirst_109 (by decide) ?_
                    rw [if_neg c_20, if_neg (Int32.not_le.mpr c_33), ea, eb]
                    have ha2 := nx1_b (one := one) (n := n) (a := a) (v := (fBit σ).1)
                    rw [ea] at ha2
                    first
                      | exact absurd c_86 (by decide)
                      | exact absurd (by decide) c_86
                      | exact absurd c_91 (by decide)
                      | exact absurd (by decide) c_91
                      | (rw [if_neg c_86]; exact e1 ▸ ih _ _ _ _ _ (by omega) ha2 hA.bit)
                      | (rw [if_pos c_86, if_neg c_91]; exact e1 ▸ ih _ _ _ _ _ (by omega) ha2 hA.bit)
                      | (rw [if_pos c_86, if_pos c_91]; exact e1 ▸ ih _ _ _ _ _ (by omega) ha2 hA.bit.fW)
          · skip
            refine g_iload_n d_M_isFirst_43 rfl rfl ?_
            refine g_iload d_M_isFirst_44 rfl ?_
            refine g_ishr d_M_isFirst_46 ?_
            refine g_iconst (v := nI 1) d_M_isFirst_47 (by decide) ?_
            refine g_iand d_M_isFirst_48 ?_
            refine g_iload d_M_isFirst_49 rfl ?_
            refine g_icmp_ne (tgt := 58) d_M_isFirst_51 (by decide) (fun c_51 => ?_) (fun c_51 => ?_)
            · skip
              refine g_iconst (v := nI 0) d_M_isFirst_58 (by decide) ?_
              have ea : nx1 one n a (fBit σ).1 = nI 0 := by unfold nx1; first | rw [if_pos c_40] | rw [if_neg c_40, if_pos c_51] | rw [if_neg c_40, if_neg c_51]
              refine g_istore d_M_isFirst_59 (Nat.le_of_ble_eq_true rfl) ?_
              refine g_iload d_M_isFirst_61 rfl ?_
              refine g_if_eq (tgt := 81) d_M_isFirst_63 (by decide) (fun c_63 => ?_) (fun c_63 => ?_)
              · skip
                refine g_iconst (v := nI 0) d_M_isFirst_81 (by decide) ?_
                have eb : nx1 two n b (fBit σ).1 = nI 0 := by unfold nx1; first | rw [if_pos c_63] | rw [if_neg c_63, if_pos c_74] | rw [if_neg c_63, if_neg c_74]
                refine g_istore d_M_isFirst_82 (Nat.le_of_ble_eq_true rfl) ?_
                refine g_iload d_M_isFirst_84 rfl ?_
                refine g_if_ne (tgt := 106) d_M_isFirst_86 (by decide) (fun c_86 => ?_) (fun c_86 => ?_)
                · skip
                  refine g_iinc d_M_isFirst_106 rfl ?_
                  refine g_goto (tgt := 11) d_M_isFirst_109 (by decide) ?_
                  rw [if_neg c_20, if_neg (Int32.not_le.mpr c_33), ea, eb]
                  have ha2 := nx1_b (one := one) (n := n) (a := a) (v := (fBit σ).1)
                  rw [ea] at ha2
                  first
                    | exact absurd c_86 (by decide)
                    | exact absurd (by decide) c_86
                    | exact absurd c_91 (by decide)
                    | exact absurd (by decide) c_91
                    | (rw [if_neg c_86]; exact e1 ▸ ih _ _ _ _ _ (by omega) ha2 hA.bit)
                    | (rw [if_pos c_86, if_neg c_91]; exact e1 ▸ ih _ _ _ _ _ (by omega) ha2 hA.bit)
                    | (rw [if_pos c_86, if_pos c_91]; exact e1 ▸ ih _ _ _ _ _ (by omega) ha2 hA.bit.fW)
                · skip
                  refine g_iload d_M_isFirst_89 rfl ?_
                  refine g_if_ne (tgt := 106) d_M_isFirst_91 (by decide) (fun c_91 => ?_) (fun c_91 => ?_)
                  · skip
                    refine g_iinc d_M_isFirst_106 rfl ?_
                    refine g_goto (tgt := 11) d_M_isFirst_109 (by decide) ?_
                    rw [if_neg c_20, if_neg (Int32.not_le.mpr c_33), ea, eb]
                    have ha2 := nx1_b (one := one) (n := n) (a := a) (v := (fBit σ).1)
                    rw [ea] at ha2
                    first
                      | exact absurd c_86 (by decide)
                      | exact absurd (by decide) c_86
                      | exact absurd c_91 (by decide)
                      | exact absurd (by decide) c_91
                      | (rw [if_neg c_86]; exact e1 ▸ ih _ _ _ _ _ (by omega) ha2 hA.bit)
                      | (rw [if_pos c_86, if_neg c_91]; exact e1 ▸ ih _ _ _ _ _ (by omega) ha2 hA.bit)
                      | (rw [if_pos c_86, if_pos c_91]; exact e1 ▸ ih _ _ _ _ _ (by omega) ha2 hA.bit.fW)
                  · skip
                    refine g_aload_n d_M_isFirst_94 rfl rfl ?_
                    refine g_aload_n d_M_isFirst_95 rfl rfl ?_
                    refine g_get d_M_isFirst_96 fM_10 rfl ?_
                    refine g_iconst (v := nI 1) d_M_isFirst_99 (by decide) ?_
                    refine g_isub d_M_isFirst_100 ?_
                    refine g_calli (As := [_]) d_M_isFirst_101 lM_16 mv_M_isWrong rfl rfl rfl (Nat.le_of_ble_eq_true rfl) (by decide) (m_isWrong) ?_
                    refine g_istore d_M_isFirst_104 (Nat.le_of_ble_eq_true rfl) ?_
                    refine g_iinc d_M_isFirst_106 rfl ?_
                    refine g_goto (tgt := 11) d_M_isFirst_109 (by decide) ?_
                    rw [if_neg c_20, if_neg (Int32.not_le.mpr c_33), ea, eb]
                    have ha2 := nx1_b (one := one) (n := n) (a := a) (v := (fBit σ).1)
                    rw [ea] at ha2
                    first
                      | exact absurd c_86 (by decide)
                      | exact absurd (by decide) c_86
                      | exact absurd c_91 (by decide)
                      | exact absurd (by decide) c_91
                      | (rw [if_neg c_86]; exact e1 ▸ ih _ _ _ _ _ (by omega) ha2 hA.bit)
                      | (rw [if_pos c_86, if_neg c_91]; exact e1 ▸ ih _ _ _ _ _ (by omega) ha2 hA.bit)
                      | (rw [if_pos c_86, if_pos c_91]; exact e1 ▸ ih _ _ _ _ _ (by omega) ha2 hA.bit.fW)
              · skip
                refine g_iload_n d_M_isFirst_66 rfl rfl ?_
                refine g_iload d_M_isFirst_67 rfl ?_
                refine g_ishr d_M_isFirst_69 ?_
                refine g_iconst (v := nI 1) d_M_isFirst_70 (by decide) ?_
                refine g_iand d_M_isFirst_71 ?_
                refine g_iload d_M_isFirst_72 rfl ?_
                refine g_icmp_ne (tgt := 81) d_M_isFirst_74 (by decide) (fun c_74 => ?_) (fun c_74 => ?_)
                · skip
                  refine g_iconst (v := nI 0) d_M_isFirst_81 (by decide) ?_
                  have eb : nx1 two n b (fBit σ).1 = nI 0 := by unfold nx1; first | rw [if_pos c_63] | rw [if_neg c_63, if_pos c_74] | rw [if_neg c_63, if_neg c_74]
                  refine g_istore d_M_isFirst_82 (Nat.le_of_ble_eq_true rfl) ?_
                  refine g_iload d_M_isFirst_84 rfl ?_
                  refine g_if_ne (tgt := 106) d_M_isFirst_86 (by decide) (fun c_86 => ?_) (fun c_86 => ?_)
                  · skip
                    refine g_iinc d_M_isFirst_106 rfl ?_
                    refine g_goto (tgt := 11) d_M_isFirst_109 (by decide) ?_
                    rw [if_neg c_20, if_neg (Int32.not_le.mpr c_33), ea, eb]
                    have ha2 := nx1_b (one := one) (n := n) (a := a) (v := (fBit σ).1)
                    rw [ea] at ha2
                    first
                      | exact absurd c_86 (by decide)
                      | exact absurd (by decide) c_86
                      | exact absurd c_91 (by decide)
                      | exact absurd (by decide) c_91
                      | (rw [if_neg c_86]; exact e1 ▸ ih _ _ _ _ _ (by omega) ha2 hA.bit)
                      | (rw [if_pos c_86, if_neg c_91]; exact e1 ▸ ih _ _ _ _ _ (by omega) ha2 hA.bit)
                      | (rw [if_pos c_86, if_pos c_91]; exact e1 ▸ ih _ _ _ _ _ (by omega) ha2 hA.bit.fW)
                  · skip
                    refine g_iload d_M_isFirst_89 rfl ?_
                    refine g_if_ne (tgt := 106) d_M_isFirst_91 (by decide) (fun c_91 => ?_) (fun c_91 => ?_)
                    · skip
                      refine g_iinc d_M_isFirst_106 rfl ?_
                      refine g_goto (tgt := 11) d_M_isFirst_109 (by decide) ?_
                      rw [if_neg c_20, if_neg (Int32.not_le.mpr c_33), ea, eb]
                      have ha2 := nx1_b (one := one) (n := n) (a := a) (v := (fBit σ).1)
                      rw [ea] at ha2
                      first
                        | exact absurd c_86 (by decide)
                        | exact absurd (by decide) c_86
                        | exact absurd c_91 (by decide)
                        | exact absurd (by decide) c_91
                        | (rw [if_neg c_86]; exact e1 ▸ ih _ _ _ _ _ (by omega) ha2 hA.bit)
                        | (rw [if_pos c_86, if_neg c_91]; exact e1 ▸ ih _ _ _ _ _ (by omega) ha2 hA.bit)
                        | (rw [if_pos c_86, if_pos c_91]; exact e1 ▸ ih _ _ _ _ _ (by omega) ha2 hA.bit.fW)
                    · skip
                      refine g_aload_n d_M_isFirst_94 rfl rfl ?_
                      refine g_aload_n d_M_isFirst_95 rfl rfl ?_
                      refine g_get d_M_isFirst_96 fM_10 rfl ?_
                      refine g_iconst (v := nI 1) d_M_isFirst_99 (by decide) ?_
                      refine g_isub d_M_isFirst_100 ?_
                      refine g_calli (As := [_]) d_M_isFirst_101 lM_16 mv_M_isWrong rfl rfl rfl (Nat.le_of_ble_eq_true rfl) (by decide) (m_isWrong) ?_
                      refine g_istore d_M_isFirst_104 (Nat.le_of_ble_eq_true rfl) ?_
                      refine g_iinc d_M_isFirst_106 rfl ?_
                      refine g_goto (tgt := 11) d_M_isFirst_109 (by decide) ?_
                      rw [if_neg c_20, if_neg (Int32.not_le.mpr c_33), ea, eb]
                      have ha2 := nx1_b (one := one) (n := n) (a := a) (v := (fBit σ).1)
                      rw [ea] at ha2
                      first
                        | exact absurd c_86 (by decide)
                        | exact absurd (by decide) c_86
                        | exact absurd c_91 (by decide)
                        | exact absurd (by decide) c_91
                        | (rw [if_neg c_86]; exact e1 ▸ ih _ _ _ _ _ (by omega) ha2 hA.bit)
                        | (rw [if_pos c_86, if_neg c_91]; exact e1 ▸ ih _ _ _ _ _ (by omega) ha2 hA.bit)
                        | (rw [if_pos c_86, if_pos c_91]; exact e1 ▸ ih _ _ _ _ _ (by omega) ha2 hA.bit.fW)
                · skip
                  refine g_iconst (v := nI 1) d_M_isFirst_77 (by decide) ?_
                  refine g_goto (tgt := 82) d_M_isFirst_78 (by decide) ?_
                  have eb : nx1 two n b (fBit σ).1 = nI 1 := by unfold nx1; first | rw [if_pos c_63] | rw [if_neg c_63, if_pos c_74] | rw [if_neg c_63, if_neg c_74]
                  refine g_istore d_M_isFirst_82 (Nat.le_of_ble_eq_true rfl) ?_
                  refine g_iload d_M_isFirst_84 rfl ?_
                  refine g_if_ne (tgt := 106) d_M_isFirst_86 (by decide) (fun c_86 => ?_) (fun c_86 => ?_)
                  · skip
                    refine g_iinc d_M_isFirst_106 rfl ?_
                    refine g_goto (tgt := 11) d_M_isFirst_109 (by decide) ?_
                    rw [if_neg c_20, if_neg (Int32.not_le.mpr c_33), ea, eb]
                    have ha2 := nx1_b (one := one) (n := n) (a := a) (v := (fBit σ).1)
                    rw [ea] at ha2
                    first
                      | exact absurd c_86 (by decide)
                      | exact absurd (by decide) c_86
                      | exact absurd c_91 (by decide)
                      | exact absurd (by decide) c_91
                      | (rw [if_neg c_86]; exact e1 ▸ ih _ _ _ _ _ (by omega) ha2 hA.bit)
                      | (rw [if_pos c_86, if_neg c_91]; exact e1 ▸ ih _ _ _ _ _ (by omega) ha2 hA.bit)
                      | (rw [if_pos c_86, if_pos c_91]; exact e1 ▸ ih _ _ _ _ _ (by omega) ha2 hA.bit.fW)
                  · skip
                    refine g_iload d_M_isFirst_89 rfl ?_
                    refine g_if_ne (tgt := 106) d_M_isFirst_91 (by decide) (fun c_91 => ?_) (fun c_91 => ?_)
                    · skip
                      refine g_iinc d_M_isFirst_106 rfl ?_
                      refine g_goto (tgt := 11) d_M_isFirst_109 (by decide) ?_
                      rw [if_neg c_20, if_neg (Int32.not_le.mpr c_33), ea, eb]
                      have ha2 := nx1_b (one := one) (n := n) (a := a) (v := (fBit σ).1)
                      rw [ea] at ha2
                      first
                        | exact absurd c_86 (by decide)
                        | exact absurd (by decide) c_86
                        | exact absurd c_91 (by decide)
                        | exact absurd (by decide) c_91
                        | (rw [if_neg c_86]; exact e1 ▸ ih _ _ _ _ _ (by omega) ha2 hA.bit)
                        | (rw [if_pos c_86, if_neg c_91]; exact e1 ▸ ih _ _ _ _ _ (by omega) ha2 hA.bit)
                        | (rw [if_pos c_86, if_pos c_91]; exact e1 ▸ ih _ _ _ _ _ (by omega) ha2 hA.bit.fW)
                    · skip
                      refine g_aload_n d_M_isFirst_94 rfl rfl ?_
                      refine g_aload_n d_M_isFirst_95 rfl rfl ?_
                      refine g_get d_M_isFirst_96 fM_10 rfl ?_
                      refine g_iconst (v := nI 1) d_M_isFirst_99 (by decide) ?_
                      refine g_isub d_M_isFirst_100 ?_
                      refine g_calli (As := [_]) d_M_isFirst_101 lM_16 mv_M_isWrong rfl rfl rfl (Nat.le_of_ble_eq_true rfl) (by decide) (m_isWrong) ?_
                      refine g_istore d_M_isFirst_104 (Nat.le_of_ble_eq_true rfl) ?_
                      refine g_iinc d_M_isFirst_106 rfl ?_
                      refine g_goto (tgt := 11) d_M_isFirst_109 (by decide) ?_
                      rw [if_neg c_20, if_neg (Int32.not_le.mpr c_33), ea, eb]
                      have ha2 := nx1_b (one := one) (n := n) (a := a) (v := (fBit σ).1)
                      rw [ea] at ha2
                      first
                        | exact absurd c_86 (by decide)
                        | exact absurd (by decide) c_86
                        | exact absurd c_91 (by decide)
                        | exact absurd (by decide) c_91
                        | (rw [if_neg c_86]; exact e1 ▸ ih _ _ _ _ _ (by omega) ha2 hA.bit)
                        | (rw [if_pos c_86, if_neg c_91]; exact e1 ▸ ih _ _ _ _ _ (by omega) ha2 hA.bit)
                        | (rw [if_pos c_86, if_pos c_91]; exact e1 ▸ ih _ _ _ _ _ (by omega) ha2 hA.bit.fW)
            · skip
              refine g_iconst (v := nI 1) d_M_isFirst_54 (by decide) ?_
              refine g_goto (tgt := 59) d_M_isFirst_55 (by decide) ?_
              have ea : nx1 one n a (fBit σ).1 = nI 1 := by unfold nx1; first | rw [if_pos c_40] | rw [if_neg c_40, if_pos c_51] | rw [if_neg c_40, if_neg c_51]
              refine g_istore d_M_isFirst_59 (Nat.le_of_ble_eq_true rfl) ?_
              refine g_iload d_M_isFirst_61 rfl ?_
              refine g_if_eq (tgt := 81) d_M_isFirst_63 (by decide) (fun c_63 => ?_) (fun c_63 => ?_)
              · skip
                refine g_iconst (v := nI 0) d_M_isFirst_81 (by decide) ?_
                have eb : nx1 two n b (fBit σ).1 = nI 0 := by unfold nx1; first | rw [if_pos c_63] | rw [if_neg c_63, if_pos c_74] | rw [if_neg c_63, if_neg c_74]
                refine g_istore d_M_isFirst_82 (Nat.le_of_ble_eq_true rfl) ?_
                refine g_iload d_M_isFirst_84 rfl ?_
                refine g_if_ne (tgt := 106) d_M_isFirst_86 (by decide) (fun c_86 => ?_) (fun c_86 => ?_)
                · skip
                  refine g_iinc d_M_isFirst_106 rfl ?_
                  refine g_goto (tgt := 11) d_M_isFirst_109 (by decide) ?_
                  rw [if_neg c_20, if_neg (Int32.not_le.mpr c_33), ea, eb]
                  have ha2 := nx1_b (one := one) (n := n) (a := a) (v := (fBit σ).1)
                  rw [ea] at ha2
                  first
                    | exact absurd c_86 (by decide)
                    | exact absurd (by decide) c_86
                    | exact absurd c_91 (by decide)
                    | exact absurd (by decide) c_91
                    | (rw [if_neg c_86]; exact e1 ▸ ih _ _ _ _ _ (by omega) ha2 hA.bit)
                    | (rw [if_pos c_86, if_neg c_91]; exact e1 ▸ ih _ _ _ _ _ (by omega) ha2 hA.bit)
                    | (rw [if_pos c_86, if_pos c_91]; exact e1 ▸ ih _ _ _ _ _ (by omega) ha2 hA.bit.fW)
                · skip
                  refine g_iload d_M_isFirst_89 rfl ?_
                  refine g_if_ne (tgt := 106) d_M_isFirst_91 (by decide) (fun c_91 => ?_) (fun c_91 => ?_)
                  · skip
                    refine g_iinc d_M_isFirst_106 rfl ?_
                    refine g_goto (tgt := 11) d_M_isFirst_109 (by decide) ?_
                    rw [if_neg c_20, if_neg (Int32.not_le.mpr c_33), ea, eb]
                    have ha2 := nx1_b (one := one) (n := n) (a := a) (v := (fBit σ).1)
                    rw [ea] at ha2
                    first
                      | exact absurd c_86 (by decide)
                      | exact absurd (by decide) c_86
                      | exact absurd c_91 (by decide)
                      | exact absurd (by decide) c_91
                      | (rw [if_neg c_86]; exact e1 ▸ ih _ _ _ _ _ (by omega) ha2 hA.bit)
                      | (rw [if_pos c_86, if_neg c_91]; exact e1 ▸ ih _ _ _ _ _ (by omega) ha2 hA.bit)
                      | (rw [if_pos c_86, if_pos c_91]; exact e1 ▸ ih _ _ _ _ _ (by omega) ha2 hA.bit.fW)
                  · skip
                    refine g_aload_n d_M_isFirst_94 rfl rfl ?_
                    refine g_aload_n d_M_isFirst_95 rfl rfl ?_
                    refine g_get d_M_isFirst_96 fM_10 rfl ?_
                    refine g_iconst (v := nI 1) d_M_isFirst_99 (by decide) ?_
                    refine g_isub d_M_isFirst_100 ?_
                    refine g_calli (As := [_]) d_M_isFirst_101 lM_16 mv_M_isWrong rfl rfl rfl (Nat.le_of_ble_eq_true rfl) (by decide) (m_isWrong) ?_
                    refine g_istore d_M_isFirst_104 (Nat.le_of_ble_eq_true rfl) ?_
                    refine g_iinc d_M_isFirst_106 rfl ?_
                    refine g_goto (tgt := 11) d_M_isFirst_109 (by decide) ?_
                    rw [if_neg c_20, if_neg (Int32.not_le.mpr c_33), ea, eb]
                    have ha2 := nx1_b (one := one) (n := n) (a := a) (v := (fBit σ).1)
                    rw [ea] at ha2
                    first
                      | exact absurd c_86 (by decide)
                      | exact absurd (by decide) c_86
                      | exact absurd c_91 (by decide)
                      | exact absurd (by decide) c_91
                      | (rw [if_neg c_86]; exact e1 ▸ ih _ _ _ _ _ (by omega) ha2 hA.bit)
                      | (rw [if_pos c_86, if_neg c_91]; exact e1 ▸ ih _ _ _ _ _ (by omega) ha2 hA.bit)
                      | (rw [if_pos c_86, if_pos c_91]; exact e1 ▸ ih _ _ _ _ _ (by omega) ha2 hA.bit.fW)
              · skip
                refine g_iload_n d_M_isFirst_66 rfl rfl ?_
                refine g_iload d_M_isFirst_67 rfl ?_
                refine g_ishr d_M_isFirst_69 ?_
                refine g_iconst (v := nI 1) d_M_isFirst_70 (by decide) ?_
                refine g_iand d_M_isFirst_71 ?_
                refine g_iload d_M_isFirst_72 rfl ?_
                refine g_icmp_ne (tgt := 81) d_M_isFirst_74 (by decide) (fun c_74 => ?_) (fun c_74 => ?_)
                · skip
                  refine g_iconst (v := nI 0) d_M_isFirst_81 (by decide) ?_
                  have eb : nx1 two n b (fBit σ).1 = nI 0 := by unfold nx1; first | rw [if_pos c_63] | rw [if_neg c_63, if_pos c_74] | rw [if_neg c_63, if_neg c_74]
                  refine g_istore d_M_isFirst_82 (Nat.le_of_ble_eq_true rfl) ?_
                  refine g_iload d_M_isFirst_84 rfl ?_
                  refine g_if_ne (tgt := 106) d_M_isFirst_86 (by decide) (fun c_86 => ?_) (fun c_86 => ?_)
                  · skip
                    refine g_iinc d_M_isFirst_106 rfl ?_
                    refine g_goto (tgt := 11) d_M_isFirst_109 (by decide) ?_
                    rw [if_neg c_20, if_neg (Int32.not_le.mpr c_33), ea, eb]
                    have ha2 := nx1_b (one := one) (n := n) (a := a) (v := (fBit σ).1)
                    rw [ea] at ha2
                    first
                      | exact absurd c_86 (by decide)
                      | exact absurd (by decide) c_86
                      | exact absurd c_91 (by decide)
                      | exact absurd (by decide) c_91
                      | (rw [if_neg c_86]; exact e1 ▸ ih _ _ _ _ _ (by omega) ha2 hA.bit)
                      | (rw [if_pos c_86, if_neg c_91]; exact e1 ▸ ih _ _ _ _ _ (by omega) ha2 hA.bit)
                      | (rw [if_pos c_86, if_pos c_91]; exact e1 ▸ ih _ _ _ _ _ (by omega) ha2 hA.bit.fW)
                  · skip
                    refine g_iload d_M_isFirst_89 rfl ?_
                    refine g_if_ne (tgt := 106) d_M_isFirst_91 (by decide) (fun c_91 => ?_) (fun c_91 => ?_)
                    · skip
                      refine g_iinc d_M_isFirst_106 rfl ?_
                      refine g_goto (tgt := 11) d_M_isFirst_109 (by decide) ?_
                      rw [if_neg c_20, if_neg (Int32.not_le.mpr c_33), ea, eb]
                      have ha2 := nx1_b (one := one) (n := n) (a := a) (v := (fBit σ).1)
                      rw [ea] at ha2
                      first
                        | exact absurd c_86 (by decide)
                        | exact absurd (by decide) c_86
                        | exact absurd c_91 (by decide)
                        | exact absurd (by decide) c_91
                        | (rw [if_neg c_86]; exact e1 ▸ ih _ _ _ _ _ (by omega) ha2 hA.bit)
                        | (rw [if_pos c_86, if_neg c_91]; exact e1 ▸ ih _ _ _ _ _ (by omega) ha2 hA.bit)
                        | (rw [if_pos c_86, if_pos c_91]; exact e1 ▸ ih _ _ _ _ _ (by omega) ha2 hA.bit.fW)
                    · skip
                      refine g_aload_n d_M_isFirst_94 rfl rfl ?_
                      refine g_aload_n d_M_isFirst_95 rfl rfl ?_
                      refine g_get d_M_isFirst_96 fM_10 rfl ?_
                      refine g_iconst (v := nI 1) d_M_isFirst_99 (by decide) ?_
                      refine g_isub d_M_isFirst_100 ?_
                      refine g_calli (As := [_]) d_M_isFirst_101 lM_16 mv_M_isWrong rfl rfl rfl (Nat.le_of_ble_eq_true rfl) (by decide) (m_isWrong) ?_
                      refine g_istore d_M_isFirst_104 (Nat.le_of_ble_eq_true rfl) ?_
                      refine g_iinc d_M_isFirst_106 rfl ?_
                      refine g_goto (tgt := 11) d_M_isFirst_109 (by decide) ?_
                      rw [if_neg c_20, if_neg (Int32.not_le.mpr c_33), ea, eb]
                      have ha2 := nx1_b (one := one) (n := n) (a := a) (v := (fBit σ).1)
                      rw [ea] at ha2
                      first
                        | exact absurd c_86 (by decide)
                        | exact absurd (by decide) c_86
                        | exact absurd c_91 (by decide)
                        | exact absurd (by decide) c_91
                        | (rw [if_neg c_86]; exact e1 ▸ ih _ _ _ _ _ (by omega) ha2 hA.bit)
                        | (rw [if_pos c_86, if_neg c_91]; exact e1 ▸ ih _ _ _ _ _ (by omega) ha2 hA.bit)
                        | (rw [if_pos c_86, if_pos c_91]; exact e1 ▸ ih _ _ _ _ _ (by omega) ha2 hA.bit.fW)
                · skip
                  refine g_iconst (v := nI 1) d_M_isFirst_77 (by decide) ?_
                  refine g_goto (tgt := 82) d_M_isFirst_78 (by decide) ?_
                  have eb : nx1 two n b (fBit σ).1 = nI 1 := by unfold nx1; first | rw [if_pos c_63] | rw [if_neg c_63, if_pos c_74] | rw [if_neg c_63, if_neg c_74]
                  refine g_istore d_M_isFirst_82 (Nat.le_of_ble_eq_true rfl) ?_
                  refine g_iload d_M_isFirst_84 rfl ?_
                  refine g_if_ne (tgt := 106) d_M_isFirst_86 (by decide) (fun c_86 => ?_) (fun c_86 => ?_)
                  · skip
                    refine g_iinc d_M_isFirst_106 rfl ?_
                    refine g_goto (tgt := 11) d_M_isFirst_109 (by decide) ?_
                    rw [if_neg c_20, if_neg (Int32.not_le.mpr c_33), ea, eb]
                    have ha2 := nx1_b (one := one) (n := n) (a := a) (v := (fBit σ).1)
                    rw [ea] at ha2
                    first
                      | exact absurd c_86 (by decide)
                      | exact absurd (by decide) c_86
                      | exact absurd c_91 (by decide)
                      | exact absurd (by decide) c_91
                      | (rw [if_neg c_86]; exact e1 ▸ ih _ _ _ _ _ (by omega) ha2 hA.bit)
                      | (rw [if_pos c_86, if_neg c_91]; exact e1 ▸ ih _ _ _ _ _ (by omega) ha2 hA.bit)
                      | (rw [if_pos c_86, if_pos c_91]; exact e1 ▸ ih _ _ _ _ _ (by omega) ha2 hA.bit.fW)
                  · skip
                    refine g_iload d_M_isFirst_89 rfl ?_
                    refine g_if_ne (tgt := 106) d_M_isFirst_91 (by decide) (fun c_91 => ?_) (fun c_91 => ?_)
                    · skip
                      refine g_iinc d_M_isFirst_106 rfl ?_
                      refine g_goto (tgt := 11) d_M_isFirst_109 (by decide) ?_
                      rw [if_neg c_20, if_neg (Int32.not_le.mpr c_33), ea, eb]
                      have ha2 := nx1_b (one := one) (n := n) (a := a) (v := (fBit σ).1)
                      rw [ea] at ha2
                      first
                        | exact absurd c_86 (by decide)
                        | exact absurd (by decide) c_86
                        | exact absurd c_91 (by decide)
                        | exact absurd (by decide) c_91
                        | (rw [if_neg c_86]; exact e1 ▸ ih _ _ _ _ _ (by omega) ha2 hA.bit)
                        | (rw [if_pos c_86, if_neg c_91]; exact e1 ▸ ih _ _ _ _ _ (by omega) ha2 hA.bit)
                        | (rw [if_pos c_86, if_pos c_91]; exact e1 ▸ ih _ _ _ _ _ (by omega) ha2 hA.bit.fW)
                    · skip
                      refine g_aload_n d_M_isFirst_94 rfl rfl ?_
                      refine g_aload_n d_M_isFirst_95 rfl rfl ?_
                      refine g_get d_M_isFirst_96 fM_10 rfl ?_
                      refine g_iconst (v := nI 1) d_M_isFirst_99 (by decide) ?_
                      refine g_isub d_M_isFirst_100 ?_
                      refine g_calli (As := [_]) d_M_isFirst_101 lM_16 mv_M_isWrong rfl rfl rfl (Nat.le_of_ble_eq_true rfl) (by decide) (m_isWrong) ?_
                      refine g_istore d_M_isFirst_104 (Nat.le_of_ble_eq_true rfl) ?_
                      refine g_iinc d_M_isFirst_106 rfl ?_
                      refine g_goto (tgt := 11) d_M_isFirst_109 (by decide) ?_
                      rw [if_neg c_20, if_neg (Int32.not_le.mpr c_33), ea, eb]
                      have ha2 := nx1_b (one := one) (n := n) (a := a) (v := (fBit σ).1)
                      rw [ea] at ha2
                      first
                        | exact absurd c_86 (by decide)
                        | exact absurd (by decide) c_86
                        | exact absurd c_91 (by decide)
                        | exact absurd (by decide) c_91
                        | (rw [if_neg c_86]; exact e1 ▸ ih _ _ _ _ _ (by omega) ha2 hA.bit)
                        | (rw [if_pos c_86, if_neg c_91]; exact e1 ▸ ih _ _ _ _ _ (by omega) ha2 hA.bit)
                        | (rw [if_pos c_86, if_pos c_91]; exact e1 ▸ ih _ _ _ _ _ (by omega) ha2 hA.bit.fW)
        · skip
          refine g_iconst (v := nI 0) d_M_isFirst_36 (by decide) ?_
          refine g_iret d_M_isFirst_37 rfl rfl ?_
          rw [if_neg c_20, if_pos (Int32.not_lt.mp c_33)]
          exact ⟨rfl, rfl⟩

theorem m_isFirst {s0 : State} {l : Launch} {m : Nat} {σ : Sg} {one two : Int32} {n : Nat} (hA : okA σ) (hn : n < 2 ^ 31) : GC s0 l M_M_isFirst m [.int one, .int two, .int (nI n)] σ (fun r σ' => r = some (.int (fIF one two n (nI 1) (nI 1) σ).1) ∧ σ' = (fIF one two n (nI 1) (nI 1) σ).2) := by
  refine g_in (by decide) rfl rfl (Nat.le_of_ble_eq_true rfl) (fun hB => ?_)
  refine g_iconst (v := nI 1) d_M_isFirst_0 (by decide) ?_
  refine g_istore d_M_isFirst_1 (Nat.le_of_ble_eq_true rfl) ?_
  refine g_iconst (v := nI 1) d_M_isFirst_3 (by decide) ?_
  refine g_istore d_M_isFirst_4 (Nat.le_of_ble_eq_true rfl) ?_
  refine g_iload_n d_M_isFirst_6 rfl rfl ?_
  refine g_iconst (v := nI 1) d_M_isFirst_7 (by decide) ?_
  refine g_isub d_M_isFirst_8 ?_
  refine g_istore d_M_isFirst_9 (Nat.le_of_ble_eq_true rfl) ?_
  exact m_isFirst_l n _ _ none none σ hn (Or.inr rfl) hA

def fShd (σ : Sg) (k sh n : Nat) : Sg := sa σ 18 (fun j => if 6144 * sh ≤ j ∧ j < 6144 * sh + n then (σ k (j - 6144 * sh)).toInt8.toInt32 else σ 18 j)
def fSh (σ : Sg) (A B k sh : Nat) (a b c d : Int32) : Sg := su (if sh < 20 then su (su (su (su (fShd σ k sh (384 * A * B)) 19 (4 * sh) a) 19 (4 * sh + 1) b) 19 (4 * sh + 2) c) 19 (4 * sh + 3) d else σ) 22 0 (nI (sh + 1))
theorem fShd_0 {σ : Sg} {k sh : Nat} : fShd σ k sh 0 = σ := sa_self (fun j => by rw [if_neg (by omega)])
theorem fShd_s {σ : Sg} {k sh n : Nat} (hk : k ≠ 18) : su (fShd σ k sh n) 18 (6144 * sh + n) ((fShd σ k sh n k n).toInt8.toInt32.toInt8.toInt32) = fShd σ k sh (n + 1) := by
  have e : fShd σ k sh n k n = σ k n := sa_k hk
  rw [e]
  refine su_sa (fun j => ?_)
  by_cases h : j = 6144 * sh + n
  · rw [if_pos h, if_pos (by omega)]
    have e2 : j - 6144 * sh = n := by omega
    rw [e2]
    simp
  · rw [if_neg h]
    by_cases h2 : 6144 * sh ≤ j ∧ j < 6144 * sh + n
    · rw [if_pos h2, if_pos (by omega)]
    · rw [if_neg h2, if_neg (by omega)]
theorem m_shows_l {s0 : State} {l : Launch} {hB : Mem} {m A B k sh : Nat} {a b c d : Int32} {σ : Sg} {P : Option Value → Sg → Prop} (hD : okD σ A B) (hk : okK k) (hk2 : k ≠ 18) (hsh : σ 22 0 = nI sh) (h20 : sh < 20) (kk : GQ s0 l M_M_shows hB m 57 [some (.ref m), some (.ref (m + aOff k)), some (.int a), some (.int b), some (.int c), some (.int d), some (.int (nI (384 * A * B)))] [] (fShd σ k sh (384 * A * B)) P) : GQ s0 l M_M_shows hB m 12 [some (.ref m), some (.ref (m + aOff k)), some (.int a), some (.int b), some (.int c), some (.int d), some (.int (nI 0))] [] σ P := by
  have hab : 384 * A * B ≤ 6144 := by
    rw [Nat.mul_assoc]
    exact Nat.mul_le_mul_left 384 (Nat.mul_le_mul hD.2.2.2.1 hD.2.2.2.2.2)
  have key := g_loop (s0 := s0) (l := l) (M := M_M_shows) (hB := hB) (m := m) (pc := 12) (P := P) (384 * A * B) (fun i => fShd σ k sh i) (fun i => [some (.ref m), some (.ref (m + aOff k)), some (.int a), some (.int b), some (.int c), some (.int d), some (.int (nI i))]) (fun i hi ih => ?_) ?_ 0 (Nat.zero_le _)
  · rw [fShd_0] at key
    exact key
  · have hac : okD (fShd σ k sh i) A B := hD.eq (eqOn.sa (by decide))
    have h22 : fShd σ k sh i 22 0 = nI sh := hsh
    refine g_iload d_M_shows_12 rfl ?_
    refine g_sipush (v := nI 384) d_M_shows_14 (by decide) ?_
    refine g_aload_n d_M_shows_17 rfl rfl ?_
    refine g_getE d_M_shows_18 fM_35 rfl hac.1 ?_
    refine g_imulN d_M_shows_21  ?_
    refine g_aload_n d_M_shows_22 rfl rfl ?_
    refine g_getE d_M_shows_23 fM_38 rfl hac.2.1 ?_
    refine g_imulN d_M_shows_26  ?_
    refine g_icmp_ge (tgt := 57) d_M_shows_27 (by decide) (fun c_27 => ?_) (fun c_27 => ?_)
    · exact absurd ((nI_leI (by omega) (by omega)).mp c_27) (by omega)
    · skip
      refine g_aload_n d_M_shows_30 rfl rfl ?_
      refine g_getA d_M_shows_31 fM_44 (by decide) ?_
      refine g_sipush (v := nI 6144) d_M_shows_34 (by decide) ?_
      refine g_aload_n d_M_shows_37 rfl rfl ?_
      refine g_getE d_M_shows_38 fM_41 rfl h22 ?_
      refine g_imulN d_M_shows_41  ?_
      refine g_iload d_M_shows_42 rfl ?_
      refine g_iaddN d_M_shows_44  ?_
      refine g_aload_n d_M_shows_45 rfl rfl ?_
      refine g_iload d_M_shows_46 rfl ?_
      refine g_iaload (k := k) d_M_shows_48 rfl hk.1 hk.2.1 hk.2.2.1 (show vp_in (nI i) (aLen k) by rw [hk.2.2.2]; exact vp_in_nI (by omega) (by decide)) ?_
      refine g_i2b d_M_shows_49 ?_
      refine g_bastore (k := 18) d_M_shows_50 rfl (by decide) (by decide) rfl (vp_in_nI (by show 6144 * sh + i < 122880; omega) (by decide)) ?_
      first | refine g_iinc1 d_M_shows_51 rfl ?_ | refine g_iinc d_M_shows_51 rfl ?_
      refine g_goto (tgt := 12) d_M_shows_54 (by decide) ?_
      rw [nI_clamp (show i < 2 ^ 31 by omega), nI_clamp (show 6144 * sh + i < 2 ^ 31 by omega), fShd_s hk2]
      exact ih
  · have hac : okD (fShd σ k sh (384 * A * B)) A B := hD.eq (eqOn.sa (by decide))
    refine g_iload d_M_shows_12 rfl ?_
    refine g_sipush (v := nI 384) d_M_shows_14 (by decide) ?_
    refine g_aload_n d_M_shows_17 rfl rfl ?_
    refine g_getE d_M_shows_18 fM_35 rfl hac.1 ?_
    refine g_imulN d_M_shows_21  ?_
    refine g_aload_n d_M_shows_22 rfl rfl ?_
    refine g_getE d_M_shows_23 fM_38 rfl hac.2.1 ?_
    refine g_imulN d_M_shows_26  ?_
    refine g_icmp_ge (tgt := 57) d_M_shows_27 (by decide) (fun c_27 => ?_) (fun c_27 => ?_)
    · skip
      exact kk
    · exact absurd (nI_le (Nat.le_refl _) (by omega)) c_27

theorem m_shows {s0 : State} {l : Launch} {m : Nat} {σ : Sg} {A B k sh : Nat} {a b c d : Int32} (hD : okD σ A B) (hk : okK k) (hk2 : k ≠ 18) (hsh : σ 22 0 = nI sh) (hs2 : sh < 2 ^ 30) : GC s0 l M_M_shows m [.ref (m + aOff k), .int a, .int b, .int c, .int d] σ (fun r σ' => r = none ∧ σ' = fSh σ A B k sh a b c d) := by
  refine g_in (by decide) rfl rfl (Nat.le_of_ble_eq_true rfl) (fun hB => ?_)
  refine g_aload_n d_M_shows_0 rfl rfl ?_
  refine g_getE d_M_shows_1 fM_41 rfl hsh ?_
  refine g_bipush (v := nI 20) d_M_shows_4 (by decide) ?_
  refine g_icmp_ge (tgt := 113) d_M_shows_6 (by decide) (fun c_6 => ?_) (fun c_6 => ?_)
  · skip
    refine g_aload_n d_M_shows_113 rfl rfl ?_
    refine g_dup d_M_shows_114 rfl ?_
    refine g_getE d_M_shows_115 fM_41 rfl (show _ = nI sh from hsh) ?_
    refine g_iconst (v := nI 1) d_M_shows_118 (by decide) ?_
    refine g_iaddN d_M_shows_119  ?_
    refine g_put d_M_shows_120 fM_41 rfl rfl rfl rfl ?_
    refine g_vret d_M_shows_123 rfl ?_
    refine ⟨rfl, ?_⟩
    unfold fSh
    rw [if_neg (fun h9 => absurd c_6 (nI_ge h9 (by decide)))]
  · skip
    have h20 : sh < 20 := Nat.lt_of_not_le (fun h9 => c_6 (nI_le h9 (by omega)))
    refine g_iconst (v := nI 0) d_M_shows_9 (by decide) ?_
    refine g_istore d_M_shows_10 (Nat.le_of_ble_eq_true rfl) ?_
    refine m_shows_l hD hk hk2 hsh h20 ?_
    refine g_aload_n d_M_shows_57 rfl rfl ?_
    refine g_getA d_M_shows_58 fM_47 (by decide) ?_
    refine g_iconst (v := nI 4) d_M_shows_61 (by decide) ?_
    refine g_aload_n d_M_shows_62 rfl rfl ?_
    refine g_getE d_M_shows_63 fM_41 rfl (show _ = nI sh from hsh) ?_
    refine g_imulN d_M_shows_66  ?_
    refine g_iload_n d_M_shows_67 rfl rfl ?_
    refine g_iastore (k := 19) d_M_shows_68 rfl (by decide) (by decide) rfl (vp_in_nI (by show 4 * sh < 80; omega) (by decide)) ?_
    refine g_aload_n d_M_shows_69 rfl rfl ?_
    refine g_getA d_M_shows_70 fM_47 (by decide) ?_
    refine g_iconst (v := nI 4) d_M_shows_73 (by decide) ?_
    refine g_aload_n d_M_shows_74 rfl rfl ?_
    refine g_getE d_M_shows_75 fM_41 rfl (show _ = nI sh from hsh) ?_
    refine g_imulN d_M_shows_78  ?_
    refine g_iconst (v := nI 1) d_M_shows_79 (by decide) ?_
    refine g_iaddN d_M_shows_80  ?_
    refine g_iload_n d_M_shows_81 rfl rfl ?_
    refine g_iastore (k := 19) d_M_shows_82 rfl (by decide) (by decide) rfl (vp_in_nI (by show 4 * sh + 1 < 80; omega) (by decide)) ?_
    refine g_aload_n d_M_shows_83 rfl rfl ?_
    refine g_getA d_M_shows_84 fM_47 (by decide) ?_
    refine g_iconst (v := nI 4) d_M_shows_87 (by decide) ?_
    refine g_aload_n d_M_shows_88 rfl rfl ?_
    refine g_getE d_M_shows_89 fM_41 rfl (show _ = nI sh from hsh) ?_
    refine g_imulN d_M_shows_92  ?_
    refine g_iconst (v := nI 2) d_M_shows_93 (by decide) ?_
    refine g_iaddN d_M_shows_94  ?_
    refine g_iload d_M_shows_95 rfl ?_
    refine g_iastore (k := 19) d_M_shows_97 rfl (by decide) (by decide) rfl (vp_in_nI (by show 4 * sh + 2 < 80; omega) (by decide)) ?_
    refine g_aload_n d_M_shows_98 rfl rfl ?_
    refine g_getA d_M_shows_99 fM_47 (by decide) ?_
    refine g_iconst (v := nI 4) d_M_shows_102 (by decide) ?_
    refine g_aload_n d_M_shows_103 rfl rfl ?_
    refine g_getE d_M_shows_104 fM_41 rfl (show _ = nI sh from hsh) ?_
    refine g_imulN d_M_shows_107  ?_
    refine g_iconst (v := nI 3) d_M_shows_108 (by decide) ?_
    refine g_iaddN d_M_shows_109  ?_
    refine g_iload d_M_shows_110 rfl ?_
    refine g_iastore (k := 19) d_M_shows_112 rfl (by decide) (by decide) rfl (vp_in_nI (by show 4 * sh + 3 < 80; omega) (by decide)) ?_
    refine g_aload_n d_M_shows_113 rfl rfl ?_
    refine g_dup d_M_shows_114 rfl ?_
    refine g_getE d_M_shows_115 fM_41 rfl (show _ = nI sh from hsh) ?_
    refine g_iconst (v := nI 1) d_M_shows_118 (by decide) ?_
    refine g_iaddN d_M_shows_119  ?_
    refine g_put d_M_shows_120 fM_41 rfl rfl rfl rfl ?_
    refine g_vret d_M_shows_123 rfl ?_
    refine ⟨rfl, ?_⟩
    unfold fSh
    rw [if_pos h20, nI_clamp (by omega), nI_clamp (by omega), nI_clamp (by omega), nI_clamp (by omega)]

def fWv (k x : Nat) : Int32 := if x < 4 then wvT (4 * k + x) else if k % 2 = 1 then - wvT (4 * k + 7 - x) else wvT (4 * k + 7 - x)
theorem m_wave {s0 : State} {l : Launch} {h : Mem} {k x : Nat} (hk : k < 8) (hx : x < 8) (hW : WV s0 h) : CQ s0 l M_M_wave [.int (nI k), .int (nI x)] h (fun o h1 => o = .inl (some (.int (fWv k x))) ∧ h1 = h) := by
  refine c_in (by decide) rfl rfl (Nat.le_of_ble_eq_true rfl) ?_
  refine q_iload_n d_M_wave_0 rfl rfl ?_
  refine q_iconst (v := nI 4) d_M_wave_1 (by decide) ?_
  refine q_icmp_ge (tgt := 15) d_M_wave_2 (by decide) (fun c_2 => ?_) (fun c_2 => ?_)
  · skip
    have hx4 : ¬ x < 4 := fun h9 => absurd c_2 (nI_ge h9 (by decide))
    have e7 : nI 4 * nI k + nI 7 - nI x = nI (4 * k + 7 - x) := by rw [pk_mul, nI_add, pk_sub (by omega)]
    refine q_iload_n d_M_wave_15 rfl rfl ?_
    refine q_iconst (v := nI 2) d_M_wave_16 (by decide) ?_
    refine q_irem d_M_wave_17 (by decide) ?_
    refine q_iconst (v := nI 1) d_M_wave_18 (by decide) ?_
    refine q_icmp_ne (tgt := 38) d_M_wave_19 (by decide) (fun c_19 => ?_) (fun c_19 => ?_)
    · skip
      refine q_gets d_M_wave_38 (by decide) sM_129 ?_
      refine q_iconst (v := nI 4) d_M_wave_41 (by decide) ?_
      refine q_iload_n d_M_wave_42 rfl rfl ?_
      refine q_imul d_M_wave_43 ?_
      refine q_bipush (v := nI 7) d_M_wave_44 (by decide) ?_
      refine q_iadd d_M_wave_46 ?_
      refine q_iload_n d_M_wave_47 rfl rfl ?_
      refine q_isub d_M_wave_48 ?_
      refine q_iaload d_M_wave_49 (Or.inr hW.1) (by rw [hW.2.1, e7]; exact vp_in_nI (by omega) (by decide)) ?_
      refine q_iret d_M_wave_50 rfl rfl ?_
      refine ⟨?_, rfl⟩
      unfold fWv
      first
        | (show Sum.inl (some (Value.int (- mI h (sA s0 2) (nI 4 * nI k + nI 7 - nI x).toNatClampNeg))) = _
           have c1 : nI k - nI k / nI 2 * nI 2 = nI 1 := c_19
           rw [pk_rem (by omega) (by decide) (by decide)] at c1
           rw [if_neg hx4, if_pos ((nI_eq (by omega) (by decide)).mp c1), e7, nI_clamp (by omega), hW.2.2 _ (by omega)])
        | (show Sum.inl (some (Value.int (mI h (sA s0 2) (nI 4 * nI k + nI 7 - nI x).toNatClampNeg))) = _
           have c1 : ¬ nI k - nI k / nI 2 * nI 2 = nI 1 := c_19
           rw [pk_rem (by omega) (by decide) (by decide)] at c1
           rw [if_neg hx4, if_neg (fun h9 => c1 (by rw [h9])), e7, nI_clamp (by omega), hW.2.2 _ (by omega)])
    · skip
      refine q_gets d_M_wave_22 (by decide) sM_129 ?_
      refine q_iconst (v := nI 4) d_M_wave_25 (by decide) ?_
      refine q_iload_n d_M_wave_26 rfl rfl ?_
      refine q_imul d_M_wave_27 ?_
      refine q_bipush (v := nI 7) d_M_wave_28 (by decide) ?_
      refine q_iadd d_M_wave_30 ?_
      refine q_iload_n d_M_wave_31 rfl rfl ?_
      refine q_isub d_M_wave_32 ?_
      refine q_iaload d_M_wave_33 (Or.inr hW.1) (by rw [hW.2.1, e7]; exact vp_in_nI (by omega) (by decide)) ?_
      refine q_ineg d_M_wave_34 ?_
      refine q_goto (tgt := 50) d_M_wave_35 (by decide) ?_
      refine q_iret d_M_wave_50 rfl rfl ?_
      refine ⟨?_, rfl⟩
      unfold fWv
      first
        | (show Sum.inl (some (Value.int (- mI h (sA s0 2) (nI 4 * nI k + nI 7 - nI x).toNatClampNeg))) = _
           have c1 : nI k - nI k / nI 2 * nI 2 = nI 1 := c_19
           rw [pk_rem (by omega) (by decide) (by decide)] at c1
           rw [if_neg hx4, if_pos ((nI_eq (by omega) (by decide)).mp c1), e7, nI_clamp (by omega), hW.2.2 _ (by omega)])
        | (show Sum.inl (some (Value.int (mI h (sA s0 2) (nI 4 * nI k + nI 7 - nI x).toNatClampNeg))) = _
           have c1 : ¬ nI k - nI k / nI 2 * nI 2 = nI 1 := c_19
           rw [pk_rem (by omega) (by decide) (by decide)] at c1
           rw [if_neg hx4, if_neg (fun h9 => c1 (by rw [h9])), e7, nI_clamp (by omega), hW.2.2 _ (by omega)])
  · skip
    have hx4 : x < 4 := Nat.lt_of_not_le (fun h9 => c_2 (nI_le h9 (by omega)))
    refine q_gets d_M_wave_5 (by decide) sM_129 ?_
    refine q_iconst (v := nI 4) d_M_wave_8 (by decide) ?_
    refine q_iload_n d_M_wave_9 rfl rfl ?_
    refine q_imul d_M_wave_10 ?_
    refine q_iload_n d_M_wave_11 rfl rfl ?_
    refine q_iadd d_M_wave_12 ?_
    refine q_iaload d_M_wave_13 (Or.inr hW.1) (by rw [hW.2.1, pk_mul, nI_add]; exact vp_in_nI (by omega) (by decide)) ?_
    refine q_iret d_M_wave_14 rfl rfl ?_
    refine ⟨?_, rfl⟩
    show Sum.inl (some (Value.int (mI h (sA s0 2) (nI 4 * nI k + nI x).toNatClampNeg))) = _
    unfold fWv
    rw [if_pos hx4, pk_mul, nI_add, nI_clamp (by omega), hW.2.2 _ (by omega)]
def fFac (σ : Sg) (pl : Nat) (lv : Int32) : Int32 := if lv = 0 then nI 0 else
  hel (if σ 32 0 = 0 then (if 0 < lv then nI 2 * lv + nI 1 else nI 2 * lv - nI 1) * σ 35 0 else lv * nI (if 8 + 2 * (pl / 8 + pl % 8) ≤ 38 then 8 + 2 * (pl / 8 + pl % 8) else 38) * σ 35 0 / nI 8) (-2048) (nI 2047)
theorem m_factor {s0 : State} {l : Launch} {m : Nat} {σ : Sg} {pl : Nat} {lv : Int32} (hp : pl < 64) : GC s0 l M_M_factor m [.int (nI pl), .int lv] σ (fun r σ' => r = some (.int (fFac σ pl lv)) ∧ σ' = σ) := by
  refine g_in (by decide) rfl rfl (Nat.le_of_ble_eq_true rfl) (fun hB => ?_)
  refine g_iload_n d_M_factor_0 rfl rfl ?_
  refine g_if_ne (tgt := 6) d_M_factor_1 (by decide) (fun c_1 => ?_) (fun c_1 => ?_)
  · skip
    refine g_bipush (v := nI 8) d_M_factor_6 (by decide) ?_
    refine g_iconst (v := nI 2) d_M_factor_8 (by decide) ?_
    refine g_iload_n d_M_factor_9 rfl rfl ?_
    refine g_bipush (v := nI 8) d_M_factor_10 (by decide) ?_
    refine g_idivN d_M_factor_12 (by omega) ?_
    refine g_iload_n d_M_factor_13 rfl rfl ?_
    refine g_bipush (v := nI 8) d_M_factor_14 (by decide) ?_
    refine g_iremN d_M_factor_16 (by omega) ?_
    refine g_iaddN d_M_factor_17  ?_
    refine g_imulN d_M_factor_18  ?_
    refine g_iaddN d_M_factor_19  ?_
    refine g_istore_n d_M_factor_20 rfl (Nat.le_of_ble_eq_true rfl) ?_
    refine g_aload_n d_M_factor_21 rfl rfl ?_
    refine g_get d_M_factor_22 fM_132 rfl ?_
    refine g_if_eq (tgt := 53) d_M_factor_25 (by decide) (fun c_25 => ?_) (fun c_25 => ?_)
    · skip
      refine g_iload_n d_M_factor_53 rfl rfl ?_
      refine g_if_le (tgt := 65) d_M_factor_54 (by decide) (fun c_54 => ?_) (fun c_54 => ?_)
      · skip
        refine g_iconst (v := nI 2) d_M_factor_65 (by decide) ?_
        refine g_iload_n d_M_factor_66 rfl rfl ?_
        refine g_imul d_M_factor_67 ?_
        refine g_iconst (v := nI 1) d_M_factor_68 (by decide) ?_
        refine g_isub d_M_factor_69 ?_
        refine g_aload_n d_M_factor_70 rfl rfl ?_
        refine g_get d_M_factor_71 fM_135 rfl ?_
        refine g_imul d_M_factor_74 ?_
        refine g_istore d_M_factor_75 (Nat.le_of_ble_eq_true rfl) ?_
        refine g_iload d_M_factor_77 rfl ?_
        refine g_sipush (v := (-2048)) d_M_factor_79 (by decide) ?_
        refine g_sipush (v := nI 2047) d_M_factor_82 (by decide) ?_
        refine g_calls (As := [_, _, _]) d_M_factor_85 lM_138 ms_M_held rfl rfl rfl (Nat.le_of_ble_eq_true rfl) (by decide) (fun h hW => m_M_held) ?_
        refine g_iret d_M_factor_88 rfl rfl ?_
        refine ⟨?_, rfl⟩
        unfold fFac
        rw [if_neg c_1]
        first
          | rw [if_pos c_25, if_pos (Int32.not_le.mp c_54)]
          | rw [if_pos c_25, if_neg (Int32.not_lt.mpr c_54)]
          | rw [if_neg c_25, if_pos ((nI_leI (by omega) (by decide)).mp c_32)]
          | rw [if_neg c_25, if_neg (fun h9 => c_32 (nI_le h9 (by decide)))]
      · skip
        refine g_iconst (v := nI 2) d_M_factor_57 (by decide) ?_
        refine g_iload_n d_M_factor_58 rfl rfl ?_
        refine g_imul d_M_factor_59 ?_
        refine g_iconst (v := nI 1) d_M_factor_60 (by decide) ?_
        refine g_iadd d_M_factor_61 ?_
        refine g_goto (tgt := 70) d_M_factor_62 (by decide) ?_
        refine g_aload_n d_M_factor_70 rfl rfl ?_
        refine g_get d_M_factor_71 fM_135 rfl ?_
        refine g_imul d_M_factor_74 ?_
        refine g_istore d_M_factor_75 (Nat.le_of_ble_eq_true rfl) ?_
        refine g_iload d_M_factor_77 rfl ?_
        refine g_sipush (v := (-2048)) d_M_factor_79 (by decide) ?_
        refine g_sipush (v := nI 2047) d_M_factor_82 (by decide) ?_
        refine g_calls (As := [_, _, _]) d_M_factor_85 lM_138 ms_M_held rfl rfl rfl (Nat.le_of_ble_eq_true rfl) (by decide) (fun h hW => m_M_held) ?_
        refine g_iret d_M_factor_88 rfl rfl ?_
        refine ⟨?_, rfl⟩
        unfold fFac
        rw [if_neg c_1]
        first
          | rw [if_pos c_25, if_pos (Int32.not_le.mp c_54)]
          | rw [if_pos c_25, if_neg (Int32.not_lt.mpr c_54)]
          | rw [if_neg c_25, if_pos ((nI_leI (by omega) (by decide)).mp c_32)]
          | rw [if_neg c_25, if_neg (fun h9 => c_32 (nI_le h9 (by decide)))]
    · skip
      refine g_iload_n d_M_factor_28 rfl rfl ?_
      refine g_iload_n d_M_factor_29 rfl rfl ?_
      refine g_bipush (v := nI 38) d_M_factor_30 (by decide) ?_
      refine g_icmp_le (tgt := 40) d_M_factor_32 (by decide) (fun c_32 => ?_) (fun c_32 => ?_)
      · skip
        refine g_iload_n d_M_factor_40 rfl rfl ?_
        refine g_imul d_M_factor_41 ?_
        refine g_aload_n d_M_factor_42 rfl rfl ?_
        refine g_get d_M_factor_43 fM_135 rfl ?_
        refine g_imul d_M_factor_46 ?_
        refine g_bipush (v := nI 8) d_M_factor_47 (by decide) ?_
        refine g_idiv d_M_factor_49 (by decide) ?_
        refine g_goto (tgt := 75) d_M_factor_50 (by decide) ?_
        refine g_istore d_M_factor_75 (Nat.le_of_ble_eq_true rfl) ?_
        refine g_iload d_M_factor_77 rfl ?_
        refine g_sipush (v := (-2048)) d_M_factor_79 (by decide) ?_
        refine g_sipush (v := nI 2047) d_M_factor_82 (by decide) ?_
        refine g_calls (As := [_, _, _]) d_M_factor_85 lM_138 ms_M_held rfl rfl rfl (Nat.le_of_ble_eq_true rfl) (by decide) (fun h hW => m_M_held) ?_
        refine g_iret d_M_factor_88 rfl rfl ?_
        refine ⟨?_, rfl⟩
        unfold fFac
        rw [if_neg c_1]
        first
          | rw [if_pos c_25, if_pos (Int32.not_le.mp c_54)]
          | rw [if_pos c_25, if_neg (Int32.not_lt.mpr c_54)]
          | rw [if_neg c_25, if_pos ((nI_leI (by omega) (by decide)).mp c_32)]
          | rw [if_neg c_25, if_neg (fun h9 => c_32 (nI_le h9 (by decide)))]
      · skip
        refine g_bipush (v := nI 38) d_M_factor_35 (by decide) ?_
        refine g_goto (tgt := 41) d_M_factor_37 (by decide) ?_
        refine g_imul d_M_factor_41 ?_
        refine g_aload_n d_M_factor_42 rfl rfl ?_
        refine g_get d_M_factor_43 fM_135 rfl ?_
        refine g_imul d_M_factor_46 ?_
        refine g_bipush (v := nI 8) d_M_factor_47 (by decide) ?_
        refine g_idiv d_M_factor_49 (by decide) ?_
        refine g_goto (tgt := 75) d_M_factor_50 (by decide) ?_
        refine g_istore d_M_factor_75 (Nat.le_of_ble_eq_true rfl) ?_
        refine g_iload d_M_factor_77 rfl ?_
        refine g_sipush (v := (-2048)) d_M_factor_79 (by decide) ?_
        refine g_sipush (v := nI 2047) d_M_factor_82 (by decide) ?_
        refine g_calls (As := [_, _, _]) d_M_factor_85 lM_138 ms_M_held rfl rfl rfl (Nat.le_of_ble_eq_true rfl) (by decide) (fun h hW => m_M_held) ?_
        refine g_iret d_M_factor_88 rfl rfl ?_
        refine ⟨?_, rfl⟩
        unfold fFac
        rw [if_neg c_1]
        first
          | rw [if_pos c_25, if_pos (Int32.not_le.mp c_54)]
          | rw [if_pos c_25, if_neg (Int32.not_lt.mpr c_54)]
          | rw [if_neg c_25, if_pos ((nI_leI (by omega) (by decide)).mp c_32)]
          | rw [if_neg c_25, if_neg (fun h9 => c_32 (nI_le h9 (by decide)))]
  · skip
    refine g_iconst (v := nI 0) d_M_factor_4 (by decide) ?_
    refine g_iret d_M_factor_5 rfl rfl ?_
    unfold fFac
    rw [if_pos c_1]
    exact ⟨rfl, rfl⟩

