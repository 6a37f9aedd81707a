/-! ===== the stream reader: forgetting, drawing, reading a block ===== -/

theorem s_forgetDcs {s0 : State} {l : Launch} {c : Cx} {g : Gh} {κ : Sg}  : KC s0 l M_S_forgetDcs c [.ref (gA g 6)] g κ (fun o g' κ' => o = .inl none ∧ g' = g ∧ κ' = fFl κ 10 (nI 128) 3) := by
  refine k_in (by decide) rfl rfl (Nat.le_of_ble_eq_true rfl) (fun hB => ?_)
  refine k_aload_n d_S_forgetDcs_0 rfl rfl ?_
  refine k_getR d_S_forgetDcs_1 fS_18 rfl (al_0 (by decide)) rfl rfl ?_
  refine k_sipush (v := nI 128) d_S_forgetDcs_4 (by decide) ?_
  refine k_callSv (As := [_, _]) d_S_forgetDcs_7 lS_167 ms_J_fill rfl rfl rfl rfl (Nat.le_of_ble_eq_true rfl) (by decide) (j_fill (i := 10) (n := 3) (al_0 (by decide)) rfl rfl (by decide)) ?_
  refine k_vret d_S_forgetDcs_10 rfl ?_
  exact ⟨rfl, rfl, rfl⟩

theorem s_forgetVectors {s0 : State} {l : Launch} {c : Cx} {g : Gh} {κ : Sg}  : KC s0 l M_S_forgetVectors c [.ref (gA g 6)] g κ (fun o g' κ' => o = .inl none ∧ g' = g ∧ κ' = fFl (fFl κ 11 (nI 0) 2) 12 (nI 0) 2) := by
  refine k_in (by decide) rfl rfl (Nat.le_of_ble_eq_true rfl) (fun hB => ?_)
  refine k_aload_n d_S_forgetVectors_0 rfl rfl ?_
  refine k_getR d_S_forgetVectors_1 fS_22 rfl (al_0 (by decide)) rfl rfl ?_
  refine k_iconst (v := nI 0) d_S_forgetVectors_4 (by decide) ?_
  refine k_callSv (As := [_, _]) d_S_forgetVectors_5 lS_167 ms_J_fill rfl rfl rfl rfl (Nat.le_of_ble_eq_true rfl) (by decide) (j_fill (i := 11) (n := 2) (al_0 (by decide)) rfl rfl (by decide)) ?_
  refine k_aload_n d_S_forgetVectors_8 rfl rfl ?_
  refine k_getR d_S_forgetVectors_9 fS_25 rfl (al_0 (by decide)) rfl rfl ?_
  refine k_iconst (v := nI 0) d_S_forgetVectors_12 (by decide) ?_
  refine k_callSv (As := [_, _]) d_S_forgetVectors_13 lS_167 ms_J_fill rfl rfl rfl rfl (Nat.le_of_ble_eq_true rfl) (by decide) (j_fill (i := 12) (n := 2) (al_0 (by decide)) rfl rfl (by decide)) ?_
  refine k_vret d_S_forgetVectors_16 rfl ?_
  exact ⟨rfl, rfl, rfl⟩

theorem okP.ck {S : List Nat} {g : Gh} {κ κ' : Sg} {q p A B : Nat} (h : okP g κ q p A B) (e : kp S κ κ') (hs : idL q p ∉ S) : okP g κ' q p A B := ⟨(e _ hs 0).trans h.1, (e _ hs 1).trans h.2.1, (e _ hs 2).trans h.2.2.1, h.2.2.2⟩
theorem kp_mk (κ : Sg) : kp [7, 8, 9] κ (cMk κ) := fun k hk j => mk_k (fun z => hk (by rw [z]; decide)) (fun z => hk (by rw [z]; decide)) (fun z => hk (by rw [z]; decide))
theorem kasu {S : List Nat} {a b : Sg} {k j : Nat} {v : Int32} (h : k ∈ S) (e : kp S a b) : kp S a (su b k j v) := e.trans (kp.su h)
theorem kasa {S : List Nat} {a b : Sg} {k : Nat} {f : Nat → Int32} (h : k ∈ S) (e : kp S a b) : kp S a (sa b k f) := e.trans (kp.sa h)
theorem kaput {S : List Nat} {a b : Sg} {pl : Nat} {f : Int32} (h7 : 7 ∈ S) (h8 : 8 ∈ S) (e : kp S a b) : kp S a (cPut pl f b) := kasu h7 (kasu h7 (kasu h8 e))
theorem idL_g {q p n : Nat} (h : n < 23) : idL q p ≠ n := by unfold idL; omega

theorem s_drawBlock {s0 : State} {l : Launch} {c : Cx} {g : Gh} {κ : Sg} {A B s b : Nat} {inn : Int32} (hG : okG g) (hA : okAB A B) (hQ : okQ g κ (gN g) A B) (ha : κ 3 2 = nI A) (hs : s < A * B) (hb : b < 6) : KC s0 l M_S_drawBlock c [.ref (gA g 6), .int (nI s), .int (nI b), .int inn] g κ (fun o g' κ' => o = .inl none ∧ g' = g ∧ κ' = cDraw (cMk κ) (idD (gN g) (bP b)) (wdN A (bP b)) (bX (s % A) b) (bY (s / A) b) inn) := by
  refine k_in (by decide) rfl rfl (Nat.le_of_ble_eq_true rfl) (fun hB => ?_)
  have hq : gN g < 3 + gC g := by have := hG.1; omega
  have h03 : 0 < 3 := by decide
  have ha2 : cMk κ 3 2 = nI A := (kp_mk κ 3 (by decide) 2).trans ha
  have hxy := bXY hA.1 hs hb
  have hAB : A * B ≤ 16 := Nat.mul_le_mul hA.1.2 hA.2.2
  have hA1 := hA.1
  have hsB : s / A < B := Nat.div_lt_of_lt_mul hs
  have hB4 := hA.2
  have hsA : s % A < A := Nat.mod_lt _ (by omega)
  refine k_aload_n d_S_drawBlock_0 rfl rfl ?_
  refine k_getR d_S_drawBlock_1 fS_12 rfl (al_0 (by decide)) rfl rfl ?_
  refine k_callv (As := []) d_S_drawBlock_4 lS_183 mv_B_makeSums rfl rfl (al_0 (by decide)) rfl rfl rfl (Nat.le_of_ble_eq_true rfl) (by decide) (b_makeSums) ?_
  refine k_iload_n d_S_drawBlock_7 rfl rfl ?_
  refine k_aload_n d_S_drawBlock_8 rfl rfl ?_
  refine k_getR d_S_drawBlock_9 fS_32 rfl (al_0 (by decide)) rfl rfl ?_
  refine k_getE d_S_drawBlock_12 fS_68 rfl (al_0 (by decide)) rfl ha2 ?_
  refine k_iremN d_S_drawBlock_15 ⟨by omega, by omega, by omega⟩ ?_
  refine k_istore d_S_drawBlock_16 (Nat.le_of_ble_eq_true rfl) ?_
  refine k_iload_n d_S_drawBlock_18 rfl rfl ?_
  refine k_aload_n d_S_drawBlock_19 rfl rfl ?_
  refine k_getR d_S_drawBlock_20 fS_32 rfl (al_0 (by decide)) rfl rfl ?_
  refine k_getE d_S_drawBlock_23 fS_68 rfl (al_0 (by decide)) rfl ha2 ?_
  refine k_idivN d_S_drawBlock_26 ⟨by omega, by omega, by omega⟩ ?_
  refine k_istore d_S_drawBlock_27 (Nat.le_of_ble_eq_true rfl) ?_
  refine k_iload_n d_S_drawBlock_29 rfl rfl ?_
  refine k_iconst (v := nI 4) d_S_drawBlock_30 (by decide) ?_
  refine k_icmp_ge (tgt := 92) d_S_drawBlock_31 (by decide) (fun c_31 => ?_) (fun c_31 => ?_)
  · skip
    have hb4 : ¬ b < 4 := fun h9 => nI_ge h9 (by decide) c_31
    have hb3 : b - 3 < 3 := by omega
    refine k_aload_n d_S_drawBlock_92 rfl rfl ?_
    refine k_getR d_S_drawBlock_93 fS_32 rfl (al_0 (by decide)) rfl rfl ?_
    refine k_getR d_S_drawBlock_96 fS_115 rfl (al_0 (by decide)) rfl rfl ?_
    refine k_getR d_S_drawBlock_99 fS_157 rfl (al_P hq) (kd_P (gN g)) (pt_P0 g (gN g)) ?_
    refine k_iload_n d_S_drawBlock_102 rfl rfl ?_
    refine k_iconst (v := nI 3) d_S_drawBlock_103 (by decide) ?_
    refine k_isubN d_S_drawBlock_104 (by omega) ?_
    refine k_aaload (ci := 2) d_S_drawBlock_105 (by decide) (al_A hq) (kd_A (gN g)) (show vp_in _ (lnI g (idA (gN g))) by rw [ln_A]; exact vp_in_nI hb3 (by decide)) (by rw [nI_clamp (by omega)]; exact pt_A g (gN g) hb3) ?_
    refine k_aload_n d_S_drawBlock_106 rfl rfl ?_
    refine k_getR d_S_drawBlock_107 fS_12 rfl (al_0 (by decide)) rfl rfl ?_
    refine k_getR d_S_drawBlock_110 fS_186 rfl (al_0 (by decide)) rfl rfl ?_
    refine k_bipush (v := nI 8) d_S_drawBlock_113 (by decide) ?_
    refine k_iload d_S_drawBlock_115 rfl ?_
    refine k_imulN d_S_drawBlock_117  ?_
    refine k_bipush (v := nI 8) d_S_drawBlock_118 (by decide) ?_
    refine k_iload d_S_drawBlock_120 rfl ?_
    refine k_imulN d_S_drawBlock_122  ?_
    refine k_iload_n d_S_drawBlock_123 rfl rfl ?_
    refine k_callv (As := [_, _, _, _]) d_S_drawBlock_124 lS_189 mv_L_draw rfl rfl (al_L hq hb3) (kd_L (gN g) hb3) rfl rfl (Nat.le_of_ble_eq_true rfl) (by decide) (l_draw (q := gN g) (p := b - 3) (A := A) (B := B) (x0 := 8 * (s % A)) (y0 := 8 * (s / A)) hq hb3 hA ((hQ (b - 3) hb3).ck (kp_mk κ) (by simp; unfold idL; omega)) (by have := hxy.2.1; unfold bX bP at this; rw [if_neg hb4, if_neg hb4, show 16 * (s % A) / 2 = 8 * (s % A) by omega] at this; exact this) (by have := hxy.2.2; unfold bY bP at this; rw [if_neg hb4, if_neg hb4, show 16 * (s / A) / 2 = 8 * (s / A) by omega] at this; exact this)) ?_
    refine k_vret d_S_drawBlock_127 rfl ?_
    refine ⟨rfl, rfl, ?_⟩
    first
      | (have hb4' : b < 4 := by assumption
         unfold bP bX bY
         rw [if_pos hb4', if_pos hb4', if_pos hb4'])
      | (have hb4' : ¬ b < 4 := by assumption
         unfold bP bX bY
         rw [if_neg hb4', if_neg hb4', if_neg hb4', show 16 * (s % A) / 2 = 8 * (s % A) by omega, show 16 * (s / A) / 2 = 8 * (s / A) by omega])
  · skip
    refine k_bipush (v := nI 16) d_S_drawBlock_34 (by decide) ?_
    refine k_iload d_S_drawBlock_36 rfl ?_
    refine k_imulN d_S_drawBlock_38  ?_
    refine k_bipush (v := nI 8) d_S_drawBlock_39 (by decide) ?_
    refine k_iload_n d_S_drawBlock_41 rfl rfl ?_
    refine k_iconst (v := nI 1) d_S_drawBlock_42 (by decide) ?_
    refine k_iand d_S_drawBlock_43 ?_
    refine k_top (pk_andN (by omega) 1 (by decide)) ?_
    refine k_imulN d_S_drawBlock_44  ?_
    refine k_iaddN d_S_drawBlock_45  ?_
    refine k_istore d_S_drawBlock_46 (Nat.le_of_ble_eq_true rfl) ?_
    refine k_bipush (v := nI 16) d_S_drawBlock_48 (by decide) ?_
    refine k_iload d_S_drawBlock_50 rfl ?_
    refine k_imulN d_S_drawBlock_52  ?_
    refine k_bipush (v := nI 8) d_S_drawBlock_53 (by decide) ?_
    refine k_iload_n d_S_drawBlock_55 rfl rfl ?_
    refine k_iconst (v := nI 1) d_S_drawBlock_56 (by decide) ?_
    refine k_ishr d_S_drawBlock_57 ?_
    refine k_top (pk_shrN (by omega) _ 1 (by decide)) ?_
    refine k_imulN d_S_drawBlock_58  ?_
    refine k_iaddN d_S_drawBlock_59  ?_
    refine k_istore d_S_drawBlock_60 (Nat.le_of_ble_eq_true rfl) ?_
    refine k_aload_n d_S_drawBlock_62 rfl rfl ?_
    refine k_getR d_S_drawBlock_63 fS_32 rfl (al_0 (by decide)) rfl rfl ?_
    refine k_getR d_S_drawBlock_66 fS_115 rfl (al_0 (by decide)) rfl rfl ?_
    refine k_getR d_S_drawBlock_69 fS_157 rfl (al_P hq) (kd_P (gN g)) (pt_P0 g (gN g)) ?_
    refine k_iconst (v := nI 0) d_S_drawBlock_72 (by decide) ?_
    refine k_aaload (ci := 2) d_S_drawBlock_73 (by decide) (al_A hq) (kd_A (gN g)) (show vp_in _ (lnI g (idA (gN g))) by rw [ln_A]; exact vp_in_nI (show 0 < 3 by decide) (by decide)) (pt_A g (gN g) h03) ?_
    refine k_aload_n d_S_drawBlock_74 rfl rfl ?_
    refine k_getR d_S_drawBlock_75 fS_12 rfl (al_0 (by decide)) rfl rfl ?_
    refine k_getR d_S_drawBlock_78 fS_186 rfl (al_0 (by decide)) rfl rfl ?_
    refine k_iload d_S_drawBlock_81 rfl ?_
    refine k_iload d_S_drawBlock_83 rfl ?_
    refine k_iload_n d_S_drawBlock_85 rfl rfl ?_
    have hb4 : b < 4 := by rcases Nat.lt_or_ge b 4 with h9 | h9 <;> first | exact h9 | exact absurd (nI_le h9 (by omega)) c_31
    refine k_callv (As := [_, _, _, _]) d_S_drawBlock_86 lS_189 mv_L_draw rfl rfl (al_L hq h03) (kd_L (gN g) h03) rfl rfl (Nat.le_of_ble_eq_true rfl) (by decide) (l_draw (q := gN g) (p := 0) (A := A) (B := B) (x0 := 16 * (s % A) + 8 * (b % 2)) (y0 := 16 * (s / A) + 8 * (b / 2)) hq h03 hA ((hQ 0 h03).ck (kp_mk κ) (by simp; unfold idL; omega)) (by have := hxy.2.1; unfold bX bP at this; rw [if_pos hb4, if_pos hb4] at this; exact this) (by have := hxy.2.2; unfold bY bP at this; rw [if_pos hb4, if_pos hb4] at this; exact this)) ?_
    refine k_goto (tgt := 127) d_S_drawBlock_89 (by decide) ?_
    refine k_vret d_S_drawBlock_127 rfl ?_
    refine ⟨rfl, rfl, ?_⟩
    first
      | (have hb4' : b < 4 := by assumption
         unfold bP bX bY
         rw [if_pos hb4', if_pos hb4', if_pos hb4'])
      | (have hb4' : ¬ b < 4 := by assumption
         unfold bP bX bY
         rw [if_neg hb4', if_neg hb4', if_neg hb4', show 16 * (s % A) / 2 = 8 * (s % A) by omega, show 16 * (s / A) / 2 = 8 * (s / A) by omega])

theorem s_rb_l {s0 : State} {l : Launch} {c : Cx} {hB : Mem} {g : Gh} {inn : Int32} {p : Nat} : ∀ (f w i : Nat) (y5 y6 y7 : Option Value) (κ τ : Sg), RB inn w κ τ → 65 ≤ w + f → i ≤ w → w ≤ 64 → KQ s0 l M_S_readBlock c hB 64 [some (.ref (gA g 6)), some (.int (nI p)), some (.int inn), some (.int (nI w)), some (.int (nI i)), y5, y6, y7] [] g κ (EP [1, 4, 7, 8] g κ (fBk f w τ).2 (fun κ' => ¬ (fBk f w τ).1 = 0 ∧ RBe (fBk f w τ).2 κ')) := by
  intro f
  induction f with
  | zero => intro w i _ _ _ _ _ _ h1 h2 h3; omega
  | succ f ih =>
    intro w i y5 y6 y7 κ τ hr hf hi hw
    refine k_iload d_S_readBlock_64 rfl ?_
    refine k_bipush (v := nI 64) d_S_readBlock_66 (by decide) ?_
    refine k_icmp_gt (tgt := 172) d_S_readBlock_68 (by decide) (fun c_68 => ?_) (fun c_68 => ?_)
    · exact absurd ((nI_ltI (by decide) (by omega)).mp c_68) (by omega)
    · skip
      refine k_aload_n d_S_readBlock_71 rfl rfl ?_
      refine k_getR d_S_readBlock_72 fS_28 rfl (al_0 (by decide)) rfl rfl ?_
      refine k_bipush (v := nI 64) d_S_readBlock_75 (by decide) ?_
      refine k_iload_n d_S_readBlock_77 rfl rfl ?_
      refine k_isubN d_S_readBlock_78 hw ?_
      refine k_callT (As := [_]) d_S_readBlock_79 lS_106 mv_T_unsigned rfl rfl (al_0 (by decide)) rfl rfl rfl (Nat.le_of_ble_eq_true rfl) (by decide) (t_unsigned hr.1) (fun w_79 => ?_) (fun w_79 x_79 => ?_)
      · skip
        obtain ⟨u1, u2, n, u3, u4⟩ := bk_ok hr.1.1 hr.1.2.2.2.1 hw w_79
        have hr1 := hr.read (tk_u 22 0 τ) (okR.u 22 0 hr.1.1) u2
        rw [u1, u3]
        refine k_istore d_S_readBlock_82 (Nat.le_of_ble_eq_true rfl) ?_
        refine k_iload d_S_readBlock_84 rfl ?_
        refine k_if_ne (tgt := 92) d_S_readBlock_86 (by decide) (fun c_86 => ?_) (fun c_86 => ?_)
        · skip
          have hn1 : 1 ≤ n := Nat.one_le_iff_ne_zero.mpr (fun z => c_86 (by rw [z]; rfl))
          refine k_iload_n d_S_readBlock_92 rfl rfl ?_
          refine k_iload d_S_readBlock_93 rfl ?_
          refine k_iaddN d_S_readBlock_95  ?_
          refine k_istore_n d_S_readBlock_96 rfl (Nat.le_of_ble_eq_true rfl) ?_
          refine k_aload_n d_S_readBlock_97 rfl rfl ?_
          refine k_getR d_S_readBlock_98 fS_28 rfl (al_0 (by decide)) rfl rfl ?_
          refine k_get d_S_readBlock_101 fS_85 rfl (al_0 (by decide)) rfl ?_
          refine k_istore d_S_readBlock_104 (Nat.le_of_ble_eq_true rfl) ?_
          refine k_aload_n d_S_readBlock_106 rfl rfl ?_
          refine k_getR d_S_readBlock_107 fS_28 rfl (al_0 (by decide)) rfl rfl ?_
          refine k_sipush (v := (-2047)) d_S_readBlock_110 (by decide) ?_
          refine k_sipush (v := nI 2047) d_S_readBlock_113 (by decide) ?_
          refine k_callT (As := [_, _]) d_S_readBlock_116 lS_148 mv_T_signed rfl rfl (al_0 (by decide)) rfl rfl rfl (Nat.le_of_ble_eq_true rfl) (by decide) (t_signed hr1.1) (fun w_116 => ?_) (fun w_116 x_116 => ?_)
          · skip
            obtain ⟨v1, v2, v3, v4⟩ := ss_wm hr1.1.1 u2 w_116
            have hr2 := hr1.read (tk_u 22 0 _) (okR.u 22 0 hr1.1.1) v2
            rw [v1, su_su]
            rw [su_su] at hr2
            refine k_istore d_S_readBlock_119 (Nat.le_of_ble_eq_true rfl) ?_
            refine k_iload d_S_readBlock_121 rfl ?_
            refine k_if_ne (tgt := 135) d_S_readBlock_123 (by decide) (fun c_123 => ?_) (fun c_123 => ?_)
            · skip
              refine k_aload_n d_S_readBlock_135 rfl rfl ?_
              refine k_getR d_S_readBlock_136 fS_12 rfl (al_0 (by decide)) rfl rfl ?_
              refine k_iload_n d_S_readBlock_139 rfl rfl ?_
              refine k_iconst (v := nI 1) d_S_readBlock_140 (by decide) ?_
              refine k_isubN d_S_readBlock_141 (by omega) ?_
              refine k_iload d_S_readBlock_142 rfl ?_
              refine k_aload_n d_S_readBlock_144 rfl rfl ?_
              refine k_get d_S_readBlock_145 fS_97 rfl (al_0 (by decide)) rfl ?_
              refine k_iload_n d_S_readBlock_148 rfl rfl ?_
              refine k_callv (As := [_, _, _, _]) d_S_readBlock_149 lS_179 mv_B_putLevel rfl rfl (al_0 (by decide)) rfl rfl rfl (Nat.le_of_ble_eq_true rfl) (by decide) (b_putLevel (st := w + n - 1) (by omega)) ?_
              refine k_aload_n d_S_readBlock_152 rfl rfl ?_
              refine k_getR d_S_readBlock_153 fS_32 rfl (al_0 (by decide)) rfl rfl ?_
              refine k_getR d_S_readBlock_156 fS_124 rfl (al_0 (by decide)) rfl rfl ?_
              refine k_bipush (v := nI 7) d_S_readBlock_159 (by decide) ?_
              refine k_dup2 d_S_readBlock_161 rfl rfl ?_
              refine k_iaload d_S_readBlock_162 (al_0 (by decide)) rfl (show vp_in _ 8 from vp_in_nI (show 7 < 8 by decide) (by decide)) ?_
              refine k_iconst (v := nI 1) d_S_readBlock_163 (by decide) ?_
              refine k_iadd d_S_readBlock_164 ?_
              refine k_iastore d_S_readBlock_165 (al_0 (by decide)) rfl (show vp_in _ 8 from vp_in_nI (show 7 < 8 by decide) (by decide)) ?_
              first | refine k_iinc1 d_S_readBlock_166 rfl ?_ | refine k_iinc d_S_readBlock_166 rfl ?_
              refine k_goto (tgt := 64) d_S_readBlock_169 (by decide) ?_
              have e9 := bk_ls (f := f) u2 u3 hn1 u4 hw v2 c_123 v3 v4
              rw [e9]
              have hr3 := hr2.put (lv := sgnU (fU 22 0 (fU 22 0 τ).2).1) (show w ≤ w + n - 1 by omega) (by omega) c_123
              rw [show w + n - 1 + 1 = w + n by omega] at hr3
              exact KQ.mono (ih (w + n) (i + 1) _ _ _ _ _ hr3 (by omega) (by omega) (by omega)) (fun o g' κ' z => EP.up (S := [1, 4, 7, 8]) (κ := κ) z (kasu (by decide) (kaput (by decide) (by decide) (kasu (by decide) (kp.refl _ _)))))
            · skip
              skip
              refine k_aload_n d_S_readBlock_126 rfl rfl ?_
              refine k_getR d_S_readBlock_127 fS_28 rfl (al_0 (by decide)) rfl rfl ?_
              refine k_iload d_S_readBlock_130 rfl ?_
              refine k_call (As := [_]) d_S_readBlock_132 lS_94 mv_T_failAt rfl rfl (al_0 (by decide)) rfl rfl rfl (Nat.le_of_ble_eq_true rfl) (by decide) (t_failAt) (fun v_132 g_132 κ_132 q_132 => absurd q_132.1 (fun h9 => nomatch h9)) (fun E_132 g_132 κ_132 q_132 => ?_)
              obtain ⟨rE_132, rfl, rfl⟩ := q_132
              obtain rfl := Sum.inr.inj rE_132
              have e9 := bk_l0 (f := f) u2 u3 hn1 u4 hw v2 c_123
              rw [e9]
              refine ⟨(kp.su (by decide)).trans (kp.su (by decide)), Or.inr ⟨?_, rfl, rfl, ?_, fun j hj => ?_, ?_⟩⟩
              · show 0 ≤ su (fU 22 0 (fU 22 0 τ).2).2 6 0 ((fU 22 0 τ).2 4 0) 6 0
                rw [su_at]; exact at_0 hr1.1.1
              · show _ = su (fU 22 0 (fU 22 0 τ).2).2 6 0 ((fU 22 0 τ).2 4 0) 6 0
                rw [su_at (fU 22 0 (fU 22 0 τ).2).2 6 0 _]; exact (su_at _ _ _ _).trans (su_at _ _ _ _)
              · show _ = su (fU 22 0 (fU 22 0 τ).2).2 6 0 ((fU 22 0 τ).2 4 0) (20 + j) 0
                exact (show su _ 1 3 _ 4 j = su κ 1 2 _ 4 j from su_k (by decide)).trans ((hr2.2.2.1 j hj).trans (su_k (by omega)).symm)
              · show _ = su (fU 22 0 (fU 22 0 τ).2).2 6 0 ((fU 22 0 τ).2 4 0) 5 0
                exact (show su _ 1 3 _ 1 1 = su κ 1 2 _ 1 1 from su_j (by decide)).trans (hr2.1.2.2.1.trans (su_k (by decide)).symm)
          · skip
            have e9 := bk_lf (f := f) u2 u3 hn1 u4 hw w_116
            rw [e9]
            refine EP.up (κ1 := su κ 1 2 ((fU 22 0 τ).2 4 0)) (EP.thr (by decide) w_116 rfl rfl ⟨hr1.2.2.1, hr1.1.2.2.1⟩ (tk_kp (tk_ss _ _ _))) (kp.su (by decide))
        · skip
          refine k_goto (tgt := 172) d_S_readBlock_89 (by decide) ?_
          refine k_aload_n d_S_readBlock_172 rfl rfl ?_
          refine k_getR d_S_readBlock_173 fS_32 rfl (al_0 (by decide)) rfl rfl ?_
          refine k_getR d_S_readBlock_176 fS_124 rfl (al_0 (by decide)) rfl rfl ?_
          refine k_bipush (v := nI 6) d_S_readBlock_179 (by decide) ?_
          refine k_dup2 d_S_readBlock_181 rfl rfl ?_
          refine k_iaload d_S_readBlock_182 (al_0 (by decide)) rfl (show vp_in _ 8 from vp_in_nI (show 6 < 8 by decide) (by decide)) ?_
          refine k_iconst (v := nI 1) d_S_readBlock_183 (by decide) ?_
          refine k_iadd d_S_readBlock_184 ?_
          refine k_iastore d_S_readBlock_185 (al_0 (by decide)) rfl (show vp_in _ 8 from vp_in_nI (show 6 < 8 by decide) (by decide)) ?_
          refine k_vret d_S_readBlock_186 rfl ?_
          have e0 : n = 0 := (nI_eq (b := 0) (by omega) (by decide)).mp c_86
          subst e0
          have e9 := bk_0 (f := f) (w := w) u2 u3
          rw [e9]
          exact ⟨(kp.su (by decide)).trans (kp.su (by decide)), Or.inl ⟨u2, rfl, rfl, (show ¬ nI 1 = 0 by decide), hr1.fin⟩⟩
      · skip
        have e9 := bk_fail (f := f) hr.1.1 hr.1.2.2.2.1 hw w_79
        rw [e9]
        exact EP.thr (by decide) w_79 rfl rfl ⟨hr.2.2.1, hr.1.2.2.1⟩ (tk_kp (tk_uE (tk_u 22 0 τ)))

theorem s_readBlock {s0 : State} {l : Launch} {c : Cx} {g : Gh} {κ : Sg} {σ : Sg} {p : Nat} {inn : Int32} (hT : TRel κ σ) (hA : TA κ σ) (hq : κ 6 7 = σ 35 0) (hi : σ 32 0 = inn) (hp : p < 3) (hdc : ¬ inn = 0 → DC κ σ) : KC s0 l M_S_readBlock c [.ref (gA g 6), .int (nI p), .int inn] g κ (EP [1, 4, 7, 8, 10] g κ (fBlk σ p).2 (fun κ' => ¬ (fBlk σ p).1 = 0 ∧ RBe (fBlk σ p).2 κ' ∧ (¬ inn = 0 → DC κ' (fBlk σ p).2) ∧ (inn = 0 → ∀ j, κ' 10 j = κ 10 j))) := by
  refine k_in (by decide) rfl rfl (Nat.le_of_ble_eq_true rfl) (fun hB => ?_)
  refine k_aload_n d_S_readBlock_0 rfl rfl ?_
  refine k_getR d_S_readBlock_1 fS_12 rfl (al_0 (by decide)) rfl rfl ?_
  refine k_callv (As := []) d_S_readBlock_4 lS_173 mv_B_clear rfl rfl (al_0 (by decide)) rfl rfl rfl (Nat.le_of_ble_eq_true rfl) (by decide) (b_clear) ?_
  have hr := RB.new hT hA hq hi
  have k2 : kp [8, 7] κ (su (su (fFl κ 8 (nI 0) 64) 7 2 (nI 0)) 7 3 (nI 0)) := ((kp.sa (by decide)).trans (kp.su (by decide))).trans (kp.su (by decide))
  refine k_iconst (v := nI 0) d_S_readBlock_7 (by decide) ?_
  refine k_istore_n d_S_readBlock_8 rfl (Nat.le_of_ble_eq_true rfl) ?_
  refine k_iload_n d_S_readBlock_9 rfl rfl ?_
  refine k_if_eq (tgt := 61) d_S_readBlock_10 (by decide) (fun c_10 => ?_) (fun c_10 => ?_)
  · skip
    refine k_iconst (v := nI 0) d_S_readBlock_61 (by decide) ?_
    refine k_istore d_S_readBlock_62 (Nat.le_of_ble_eq_true rfl) ?_
    rw [blk_o (hi.trans c_10)]
    refine KQ.mono (s_rb_l 65 0 0 _ _ _ _ _ hr (by decide) (by decide) (by decide)) (fun o g' κ' z => ?_)
    refine EP.mono (S := [1, 4, 7, 8]) (EP.up (S := [1, 4, 7, 8]) z (k2.mono (by decide))) (by decide) (fun _ k z => ⟨z.1, z.2, fun h => absurd c_10 h, fun _ j => k 10 (by decide) j⟩)
  · skip
    obtain ⟨d, hd1, hd2, hd3⟩ := hdc c_10 p hp
    have hk10 : su (su (fFl κ 8 (nI 0) 64) 7 2 (nI 0)) 7 3 (nI 0) 10 p = nI d := (k2 10 (by decide) p).trans hd2
    refine k_aload_n d_S_readBlock_13 rfl rfl ?_
    refine k_getR d_S_readBlock_14 fS_18 rfl (al_0 (by decide)) rfl rfl ?_
    refine k_iload_n d_S_readBlock_17 rfl rfl ?_
    refine k_dup2 d_S_readBlock_18 rfl rfl ?_
    refine k_iaload d_S_readBlock_19 (al_0 (by decide)) rfl (show vp_in _ 3 from vp_in_nI hp (by decide)) ?_
    refine k_top (show _ = nI d by rw [nI_clamp (by omega)]; exact hk10) ?_
    refine k_aload_n d_S_readBlock_20 rfl rfl ?_
    refine k_getR d_S_readBlock_21 fS_28 rfl (al_0 (by decide)) rfl rfl ?_
    refine k_aload_n d_S_readBlock_24 rfl rfl ?_
    refine k_getR d_S_readBlock_25 fS_18 rfl (al_0 (by decide)) rfl rfl ?_
    refine k_iload_n d_S_readBlock_28 rfl rfl ?_
    refine k_iaload d_S_readBlock_29 (al_0 (by decide)) rfl (show vp_in _ 3 from vp_in_nI hp (by decide)) ?_
    refine k_top (show _ = nI d by rw [nI_clamp (by omega)]; exact hk10) ?_
    refine k_ineg d_S_readBlock_30 ?_
    refine k_sipush (v := nI 255) d_S_readBlock_31 (by decide) ?_
    refine k_aload_n d_S_readBlock_34 rfl rfl ?_
    refine k_getR d_S_readBlock_35 fS_18 rfl (al_0 (by decide)) rfl rfl ?_
    refine k_iload_n d_S_readBlock_38 rfl rfl ?_
    refine k_iaload d_S_readBlock_39 (al_0 (by decide)) rfl (show vp_in _ 3 from vp_in_nI hp (by decide)) ?_
    refine k_top (show _ = nI d by rw [nI_clamp (by omega)]; exact hk10) ?_
    refine k_isub d_S_readBlock_40 ?_
    refine k_callT (As := [_, _]) d_S_readBlock_41 lS_148 mv_T_signed rfl rfl (al_0 (by decide)) rfl rfl rfl (Nat.le_of_ble_eq_true rfl) (by decide) (t_signed hr.1) (fun w_41 => ?_) (fun w_41 x_41 => ?_)
    · skip
      obtain ⟨v1, v2, v3, v4⟩ := ss_wm hr.1.1 hr.1.2.2.2.1 w_41
      obtain ⟨e9, d', hd4, hd5⟩ := blk_i hT.1 hT.2.2.2.1 (by rw [hi]; exact c_10) hd1 hd3 w_41
      have hr1 := hr.read (tk_u 22 0 _) (okR.u 22 0 hr.1.1) v2
      rw [v1]
      refine k_iadd d_S_readBlock_44 ?_
      refine k_iastore d_S_readBlock_45 (al_0 (by decide)) rfl (show vp_in _ 3 from vp_in_nI hp (by decide)) ?_
      rw [nI_clamp (show p < 2 ^ 31 by omega)]
      refine k_aload_n d_S_readBlock_46 rfl rfl ?_
      refine k_getR d_S_readBlock_47 fS_12 rfl (al_0 (by decide)) rfl rfl ?_
      refine k_aload_n d_S_readBlock_50 rfl rfl ?_
      refine k_getR d_S_readBlock_51 fS_18 rfl (al_0 (by decide)) rfl rfl ?_
      refine k_iload_n d_S_readBlock_54 rfl rfl ?_
      refine k_iaload d_S_readBlock_55 (al_0 (by decide)) rfl (show vp_in _ 3 from vp_in_nI hp (by decide)) ?_
      refine k_top (show _ = nI d + sgnU (fU 22 0 (fClr σ 64)).1 by rw [nI_clamp (by omega)]; exact su_at _ _ _ _) ?_
      refine k_callv (As := [_]) d_S_readBlock_56 lS_176 mv_B_putDc rfl rfl (al_0 (by decide)) rfl rfl rfl (Nat.le_of_ble_eq_true rfl) (by decide) (b_putDc) ?_
      refine k_iconst (v := nI 1) d_S_readBlock_59 (by decide) ?_
      refine k_istore_n d_S_readBlock_60 rfl (Nat.le_of_ble_eq_true rfl) ?_
      refine k_iconst (v := nI 0) d_S_readBlock_61 (by decide) ?_
      refine k_istore d_S_readBlock_62 (Nat.le_of_ble_eq_true rfl) ?_
      rw [e9]
      have hr2 := hr1.dc (p := p) (v := nI d + sgnU (fU 22 0 (fClr σ 64)).1)
      refine KQ.mono (s_rb_l 65 1 0 _ _ _ _ _ hr2 (by decide) (by decide) (by decide)) (fun o g' κ' z => ?_)
      have hK : kp [1, 4, 7, 8, 10] κ (cPut 0 (nI 8 * (nI d + sgnU (fU 22 0 (fClr σ 64)).1)) (su (su (su (su (fFl κ 8 (nI 0) 64) 7 2 (nI 0)) 7 3 (nI 0)) 1 2 ((fU 22 0 (fClr σ 64)).2 4 0)) 10 p (nI d + sgnU (fU 22 0 (fClr σ 64)).1))) := kaput (by decide) (by decide) (kasu (by decide) (kasu (by decide) (k2.mono (by decide))))
      refine EP.up (S := [1, 4, 7, 8, 10]) (EP.mono (S := [1, 4, 7, 8]) z (by decide) (fun _ k z => ⟨z.1, z.2, fun _ => ?_, fun h => absurd h c_10⟩)) hK
      · refine (hdc c_10).blk (p := p) hd5 hd4 (show su _ 10 p _ 10 p = _ from su_at _ _ _ _) (fun j hj => ?_) (fun j => k 10 (by decide) j) (show su (su _ 33 p _) 38 0 _ 33 p = _ from (su_k (by decide)).trans (su_at _ _ _ _)) (fun j hj => ?_) (fun j => kp_bk 65 1 _ 33 (by decide) j)
        · show su _ 10 p _ 10 j = _
          rw [su_j hj, su_k (by decide)]
          exact k2 10 (by decide) j
        · show su (su _ 33 p _) 38 0 _ 33 j = _
          rw [su_k (by decide), su_j hj]
          exact (tk_u 22 0 _ 33 (by decide) (by decide) j).trans (kp_clr σ 64 33 (by decide) j)
    · skip
      have e9 := blk_f hT.1 hT.2.2.2.1 (by rw [hi]; exact c_10) hd1 hd3 w_41
      rw [e9]
      refine EP.up (EP.thr (by decide) w_41 rfl rfl ⟨hr.2.2.1, hr.1.2.2.1⟩ (tk_kp (tk_ss _ _ _))) ?_
      exact ((kp.sa (by decide)).trans (kp.su (by decide))).trans (kp.su (by decide))

