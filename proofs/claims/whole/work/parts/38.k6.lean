/-! ===== foretelling ===== -/
theorem sa_sa {σ : Sg} {k : Nat} {f g : Nat → Int32} : sa (sa σ k f) k g = sa σ k g := by
  funext a b
  unfold sa
  split <;> rfl
def hf (x : Int32) : Int32 := x >>> (nI 1 &&& 31)
def cLm (x : Int32) (w : Nat) : Nat := (hel x (nI 0) (nI w - nI 1)).toNatClampNeg
theorem cLm_e {x : Int32} {w : Nat} (h0 : 1 ≤ w) (hw : w < 2 ^ 31) : hel x (nI 0) (nI w - nI 1) = nI (cLm x w) ∧ cLm x w < w := by
  have key : ∃ c, hel x (nI 0) (nI w - nI 1) = nI c ∧ c < w := by
    unfold hel
    rw [pk_sub h0]
    by_cases h1 : nI 0 ≤ x
    · rw [if_pos h1]
      by_cases h2 : x ≤ nI (w - 1)
      · rw [if_pos h2]
        obtain ⟨j, hj, rfl⟩ := nI_of (x := x) (Int32.not_lt.mpr h1)
        exact ⟨j, rfl, by have := (nI_leI hj (by omega)).mp h2; omega⟩
      · rw [if_neg h2]
        exact ⟨w - 1, rfl, by omega⟩
    · rw [if_neg h1]
      exact ⟨0, rfl, by omega⟩
  obtain ⟨c, c1, c2⟩ := key
  have e : cLm x w = c := by
    unfold cLm
    rw [c1]
    exact nI_clamp (by omega)
  rw [e]
  exact ⟨c1, c2⟩
def cTl (D : Nat → Int32) (w h : Nat) (hx hy : Int32) (k : Nat) : Int32 :=
  (D (w * cLm (hf hy) h + cLm (hf hx + nI k) w) + D (w * cLm (hf hy) h + cLm (hf (hx + nI 1) + nI k) w) + D (w * cLm (hf (hy + nI 1)) h + cLm (hf hx + nI k) w) + D (w * cLm (hf (hy + nI 1)) h + cLm (hf (hx + nI 1) + nI k) w) + nI 2) >>> (nI 2 &&& 31)
def cMx (mx a t : Int32) : Int32 := if mx = 0 then t else (a + t + nI 1) >>> (nI 1 &&& 31)
def cFl (κ : Sg) (D D2 w h bg : Nat) (hx hy mx : Int32) (n : Nat) : Sg := sa κ D (fun i => if bg ≤ i ∧ i < bg + n then cMx mx (κ D i) (cTl (κ D2) w h hx hy (i - bg)) else κ D i)
theorem cFl_0 {κ : Sg} {D D2 w h bg : Nat} {hx hy mx : Int32} : cFl κ D D2 w h bg hx hy mx 0 = κ := sa_self (fun j => by rw [if_neg (by omega)])
theorem cFl_s {κ : Sg} {D D2 w h bg n : Nat} {hx hy mx : Int32} : su (cFl κ D D2 w h bg hx hy mx n) D (bg + n) (cMx mx (κ D (bg + n)) (cTl (κ D2) w h hx hy n)) = cFl κ D D2 w h bg hx hy mx (n + 1) := su_sa (fun j => by
  by_cases e : j = bg + n
  · have e1 : j - bg = n := by omega
    rw [if_pos e, if_pos (by omega), e1, e]
  · rw [if_neg e]
    by_cases h2 : bg ≤ j ∧ j < bg + n
    · rw [if_pos h2, if_pos (by omega)]
    · rw [if_neg h2, if_neg (by omega)])
theorem id_DD {q q2 p p2 : Nat} (hp : p < 3) (hp2 : p2 < 3) (h : q ≠ q2) : idD q p ≠ idD q2 p2 := by unfold idD; omega

theorem l_foretellLine {s0 : State} {l : Launch} {c : Cx} {g : Gh} {κ : Sg} {q q2 p A B bg : Nat} {hx hy mx : Int32} (hq : q < 3 + gC g) (hq2 : q2 < 3 + gC g) (hqq : q ≠ q2) (hp : p < 3) (hA : okAB A B) (h1 : okP g κ q p A B) (h2 : wdN A p * wdN B p ≤ gL g (idD q2 p)) (h3 : gL g (idD q2 p) ≤ 4096) (hbg : bg + szN p ≤ gL g (idD q p)) : KC s0 l M_L_foretellLine c [.ref (gA g (idL q p)), .ref (gA g (idL q2 p)), .int (nI bg), .int hx, .int hy, .int mx] g κ (fun o g' κ' => o = .inl none ∧ g' = g ∧ κ' = cFl κ (idD q p) (idD q2 p) (wdN A p) (wdN B p) bg hx hy mx (szN p)) := by
  refine k_in (by decide) rfl rfl (Nat.le_of_ble_eq_true rfl) (fun hB => ?_)
  have hr1 := wd_r (p := p) hA.1
  have hr2 := wd_r (p := p) hA.2
  have hl := h1.2.2.2
  have hsz := szN_pos p
  have hcy : cLm (hf hy) (wdN B p) < wdN B p := (cLm_e (by omega) (by omega)).2
  have hcy2 : cLm (hf (hy + nI 1)) (wdN B p) < wdN B p := (cLm_e (by omega) (by omega)).2
  refine k_aload_n d_L_foretellLine_0 rfl rfl ?_
  refine k_getE d_L_foretellLine_1 fL_19 rfl (al_L hq hp) (kd_L q hp) h1.2.1 ?_
  refine k_iload d_L_foretellLine_4 rfl ?_
  refine k_iconst (v := nI 1) d_L_foretellLine_6 (by decide) ?_
  refine k_ishr d_L_foretellLine_7 ?_
  refine k_iconst (v := nI 0) d_L_foretellLine_8 (by decide) ?_
  refine k_aload_n d_L_foretellLine_9 rfl rfl ?_
  refine k_getE d_L_foretellLine_10 fL_22 rfl (al_L hq hp) (kd_L q hp) h1.2.2.1 ?_
  refine k_iconst (v := nI 1) d_L_foretellLine_13 (by decide) ?_
  refine k_isub d_L_foretellLine_14 ?_
  refine k_held d_L_foretellLine_15 nL_35 (Nat.le_of_ble_eq_true rfl) (by decide) ?_
  refine k_top (w := nI (cLm (hf hy) (wdN B p))) (cLm_e (by omega) (by omega)).1 ?_
  refine k_imulN d_L_foretellLine_18  ?_
  refine k_istore d_L_foretellLine_19 (Nat.le_of_ble_eq_true rfl) ?_
  refine k_aload_n d_L_foretellLine_21 rfl rfl ?_
  refine k_getE d_L_foretellLine_22 fL_19 rfl (al_L hq hp) (kd_L q hp) h1.2.1 ?_
  refine k_iload d_L_foretellLine_25 rfl ?_
  refine k_iconst (v := nI 1) d_L_foretellLine_27 (by decide) ?_
  refine k_iadd d_L_foretellLine_28 ?_
  refine k_iconst (v := nI 1) d_L_foretellLine_29 (by decide) ?_
  refine k_ishr d_L_foretellLine_30 ?_
  refine k_iconst (v := nI 0) d_L_foretellLine_31 (by decide) ?_
  refine k_aload_n d_L_foretellLine_32 rfl rfl ?_
  refine k_getE d_L_foretellLine_33 fL_22 rfl (al_L hq hp) (kd_L q hp) h1.2.2.1 ?_
  refine k_iconst (v := nI 1) d_L_foretellLine_36 (by decide) ?_
  refine k_isub d_L_foretellLine_37 ?_
  refine k_held d_L_foretellLine_38 nL_35 (Nat.le_of_ble_eq_true rfl) (by decide) ?_
  refine k_top (w := nI (cLm (hf (hy + nI 1)) (wdN B p))) (cLm_e (by omega) (by omega)).1 ?_
  refine k_imulN d_L_foretellLine_41  ?_
  refine k_istore d_L_foretellLine_42 (Nat.le_of_ble_eq_true rfl) ?_
  refine k_iconst (v := nI 0) d_L_foretellLine_44 (by decide) ?_
  refine k_istore d_L_foretellLine_45 (Nat.le_of_ble_eq_true rfl) ?_
  have key := k_loop (s0 := s0) (l := l) (M := M_L_foretellLine) (c := c) (hB := hB) (g := g) (pc := 47) (P := fun o g' κ' => o = .inl none ∧ g' = g ∧ κ' = cFl κ (idD q p) (idD q2 p) (wdN A p) (wdN B p) bg hx hy mx (szN p)) (szN p) (fun k => cFl κ (idD q p) (idD q2 p) (wdN A p) (wdN B p) bg hx hy mx k) (fun k => [some (.ref (gA g (idL q p))), some (.ref (gA g (idL q2 p))), some (.int (nI bg)), some (.int (hx)), some (.int (hy)), some (.int (mx)), some (.int (nI (wdN A p * cLm (hf hy) (wdN B p)))), some (.int (nI (wdN A p * cLm (hf (hy + nI 1)) (wdN B p)))), some (.int (nI k)), none, none, none, none]) (fun k hk9 ih => ?_) ?_ 0 (Nat.zero_le _)
  · rw [cFl_0] at key
    exact key
  · skip
    have e2 : ∀ j, cFl κ (idD q p) (idD q2 p) (wdN A p) (wdN B p) bg hx hy mx k (idD q2 p) j = κ (idD q2 p) j := fun j => sa_k (id_DD hp hp (Ne.symm hqq))
    have e1 : cFl κ (idD q p) (idD q2 p) (wdN A p) (wdN B p) bg hx hy mx k (idD q p) (bg + k) = κ (idD q p) (bg + k) := (sa_at _ _ _ _).trans (if_neg (by omega))
    have hk : cFl κ (idD q p) (idD q2 p) (wdN A p) (wdN B p) bg hx hy mx k (idL q p) 0 = κ (idL q p) 0 ∧ cFl κ (idD q p) (idD q2 p) (wdN A p) (wdN B p) bg hx hy mx k (idL q p) 1 = κ (idL q p) 1 := ⟨sa_k (id_LD q p q p hp hp), sa_k (id_LD q p q p hp hp)⟩
    refine k_iload d_L_foretellLine_47 rfl ?_
    refine k_aload_n d_L_foretellLine_49 rfl rfl ?_
    refine k_getE d_L_foretellLine_50 fL_15 rfl (al_L hq hp) (kd_L q hp) (hk.1.trans h1.1) ?_
    refine k_icmp_ge (tgt := 188) d_L_foretellLine_53 (by decide) (fun c_53 => ?_) (fun c_53 => ?_)
    · exact absurd ((nI_leI (by omega) (by omega)).mp c_53) (by omega)
    · skip
      refine k_iload_n d_L_foretellLine_56 rfl rfl ?_
      refine k_iconst (v := nI 1) d_L_foretellLine_57 (by decide) ?_
      refine k_ishr d_L_foretellLine_58 ?_
      refine k_iload d_L_foretellLine_59 rfl ?_
      refine k_iadd d_L_foretellLine_61 ?_
      refine k_iconst (v := nI 0) d_L_foretellLine_62 (by decide) ?_
      refine k_aload_n d_L_foretellLine_63 rfl rfl ?_
      refine k_getE d_L_foretellLine_64 fL_19 rfl (al_L hq hp) (kd_L q hp) (hk.2.trans h1.2.1) ?_
      refine k_iconst (v := nI 1) d_L_foretellLine_67 (by decide) ?_
      refine k_isub d_L_foretellLine_68 ?_
      refine k_held d_L_foretellLine_69 nL_35 (Nat.le_of_ble_eq_true rfl) (by decide) ?_
      refine k_top (w := nI (cLm (hf hx + nI k) (wdN A p))) (cLm_e (by omega) (by omega)).1 ?_
      have hcx : cLm (hf hx + nI k) (wdN A p) < wdN A p := (cLm_e (by omega) (by omega)).2
      refine k_istore d_L_foretellLine_72 (Nat.le_of_ble_eq_true rfl) ?_
      refine k_iload_n d_L_foretellLine_74 rfl rfl ?_
      refine k_iconst (v := nI 1) d_L_foretellLine_75 (by decide) ?_
      refine k_iadd d_L_foretellLine_76 ?_
      refine k_iconst (v := nI 1) d_L_foretellLine_77 (by decide) ?_
      refine k_ishr d_L_foretellLine_78 ?_
      refine k_iload d_L_foretellLine_79 rfl ?_
      refine k_iadd d_L_foretellLine_81 ?_
      refine k_iconst (v := nI 0) d_L_foretellLine_82 (by decide) ?_
      refine k_aload_n d_L_foretellLine_83 rfl rfl ?_
      refine k_getE d_L_foretellLine_84 fL_19 rfl (al_L hq hp) (kd_L q hp) (hk.2.trans h1.2.1) ?_
      refine k_iconst (v := nI 1) d_L_foretellLine_87 (by decide) ?_
      refine k_isub d_L_foretellLine_88 ?_
      refine k_held d_L_foretellLine_89 nL_35 (Nat.le_of_ble_eq_true rfl) (by decide) ?_
      refine k_top (w := nI (cLm (hf (hx + nI 1) + nI k) (wdN A p))) (cLm_e (by omega) (by omega)).1 ?_
      have hcx2 : cLm (hf (hx + nI 1) + nI k) (wdN A p) < wdN A p := (cLm_e (by omega) (by omega)).2
      refine k_istore d_L_foretellLine_92 (Nat.le_of_ble_eq_true rfl) ?_
      refine k_aload_n d_L_foretellLine_94 rfl rfl ?_
      refine k_getR d_L_foretellLine_95 fL_9 rfl (al_L hq2 hp) (kd_L q2 hp) (pt_L g q2 hp) ?_
      refine k_iload d_L_foretellLine_98 rfl ?_
      refine k_iload d_L_foretellLine_100 rfl ?_
      refine k_iaddN d_L_foretellLine_102  ?_
      refine k_iaload d_L_foretellLine_103 (al_D hq2 hp) (kd_D q2 hp) (show vp_in _ (lnI g (idD q2 p)) by rw [ln_D g q2 hp]; exact vp_in_nI (show wdN A p * cLm (hf hy) (wdN B p) + cLm (hf hx + nI k) (wdN A p) < _ from Nat.lt_of_lt_of_le (ix_lt (hcx) (hcy)) h2) (by omega)) ?_
      refine k_aload_n d_L_foretellLine_104 rfl rfl ?_
      refine k_getR d_L_foretellLine_105 fL_9 rfl (al_L hq2 hp) (kd_L q2 hp) (pt_L g q2 hp) ?_
      refine k_iload d_L_foretellLine_108 rfl ?_
      refine k_iload d_L_foretellLine_110 rfl ?_
      refine k_iaddN d_L_foretellLine_112  ?_
      refine k_iaload d_L_foretellLine_113 (al_D hq2 hp) (kd_D q2 hp) (show vp_in _ (lnI g (idD q2 p)) by rw [ln_D g q2 hp]; exact vp_in_nI (show wdN A p * cLm (hf hy) (wdN B p) + cLm (hf (hx + nI 1) + nI k) (wdN A p) < _ from Nat.lt_of_lt_of_le (ix_lt (hcx2) (hcy)) h2) (by omega)) ?_
      refine k_iadd d_L_foretellLine_114 ?_
      refine k_aload_n d_L_foretellLine_115 rfl rfl ?_
      refine k_getR d_L_foretellLine_116 fL_9 rfl (al_L hq2 hp) (kd_L q2 hp) (pt_L g q2 hp) ?_
      refine k_iload d_L_foretellLine_119 rfl ?_
      refine k_iload d_L_foretellLine_121 rfl ?_
      refine k_iaddN d_L_foretellLine_123  ?_
      refine k_iaload d_L_foretellLine_124 (al_D hq2 hp) (kd_D q2 hp) (show vp_in _ (lnI g (idD q2 p)) by rw [ln_D g q2 hp]; exact vp_in_nI (show wdN A p * cLm (hf (hy + nI 1)) (wdN B p) + cLm (hf hx + nI k) (wdN A p) < _ from Nat.lt_of_lt_of_le (ix_lt (hcx) (hcy2)) h2) (by omega)) ?_
      refine k_iadd d_L_foretellLine_125 ?_
      refine k_aload_n d_L_foretellLine_126 rfl rfl ?_
      refine k_getR d_L_foretellLine_127 fL_9 rfl (al_L hq2 hp) (kd_L q2 hp) (pt_L g q2 hp) ?_
      refine k_iload d_L_foretellLine_130 rfl ?_
      refine k_iload d_L_foretellLine_132 rfl ?_
      refine k_iaddN d_L_foretellLine_134  ?_
      refine k_iaload d_L_foretellLine_135 (al_D hq2 hp) (kd_D q2 hp) (show vp_in _ (lnI g (idD q2 p)) by rw [ln_D g q2 hp]; exact vp_in_nI (show wdN A p * cLm (hf (hy + nI 1)) (wdN B p) + cLm (hf (hx + nI 1) + nI k) (wdN A p) < _ from Nat.lt_of_lt_of_le (ix_lt (hcx2) (hcy2)) h2) (by omega)) ?_
      refine k_iadd d_L_foretellLine_136 ?_
      refine k_istore d_L_foretellLine_137 (Nat.le_of_ble_eq_true rfl) ?_
      refine k_iload d_L_foretellLine_139 rfl ?_
      refine k_iconst (v := nI 2) d_L_foretellLine_141 (by decide) ?_
      refine k_iadd d_L_foretellLine_142 ?_
      refine k_iconst (v := nI 2) d_L_foretellLine_143 (by decide) ?_
      refine k_ishr d_L_foretellLine_144 ?_
      refine k_istore d_L_foretellLine_145 (Nat.le_of_ble_eq_true rfl) ?_
      refine k_aload_n d_L_foretellLine_147 rfl rfl ?_
      refine k_getR d_L_foretellLine_148 fL_9 rfl (al_L hq hp) (kd_L q hp) (pt_L g q hp) ?_
      refine k_iload_n d_L_foretellLine_151 rfl rfl ?_
      refine k_iload d_L_foretellLine_152 rfl ?_
      refine k_iaddN d_L_foretellLine_154  ?_
      refine k_iload d_L_foretellLine_155 rfl ?_
      refine k_if_eq (tgt := 179) d_L_foretellLine_157 (by decide) (fun c_157 => ?_) (fun c_157 => ?_)
      · skip
        refine k_iload d_L_foretellLine_179 rfl ?_
        refine k_iastore d_L_foretellLine_181 (al_D hq hp) (kd_D q hp) (show vp_in _ (lnI g (idD q p)) by rw [ln_D g q hp]; exact vp_in_nI (show bg + k < _ by omega) (by omega)) ?_
        first | refine k_iinc1 d_L_foretellLine_182 rfl ?_ | refine k_iinc d_L_foretellLine_182 rfl ?_
        refine k_goto (tgt := 47) d_L_foretellLine_185 (by decide) ?_
        have b1 := ix_lt hcx hcy
        have b2 := ix_lt hcx2 hcy
        have b3 := ix_lt hcx hcy2
        have b4 := ix_lt hcx2 hcy2
        rw [nI_clamp (show bg + k < 2 ^ 31 by omega), nI_clamp (show wdN A p * cLm (hf hy) (wdN B p) + cLm (hf hx + nI k) (wdN A p) < 2 ^ 31 by omega), nI_clamp (show wdN A p * cLm (hf hy) (wdN B p) + cLm (hf (hx + nI 1) + nI k) (wdN A p) < 2 ^ 31 by omega), nI_clamp (show wdN A p * cLm (hf (hy + nI 1)) (wdN B p) + cLm (hf hx + nI k) (wdN A p) < 2 ^ 31 by omega), nI_clamp (show wdN A p * cLm (hf (hy + nI 1)) (wdN B p) + cLm (hf (hx + nI 1) + nI k) (wdN A p) < 2 ^ 31 by omega)]
        simp only [e2]
        have hst := cFl_s (κ := κ) (D := idD q p) (D2 := idD q2 p) (w := wdN A p) (h := wdN B p) (bg := bg) (n := k) (hx := hx) (hy := hy) (mx := mx)
        unfold cMx cTl at hst
        first
          | (rw [if_pos c_157] at hst; refine k_st hst ?_; exact k_forget 9 (k_forget 10 (k_forget 11 (k_forget 12 ih))))
          | (rw [if_neg c_157] at hst; rw [e1]; refine k_st hst ?_; exact k_forget 9 (k_forget 10 (k_forget 11 (k_forget 12 ih))))
      · skip
        refine k_aload_n d_L_foretellLine_160 rfl rfl ?_
        refine k_getR d_L_foretellLine_161 fL_9 rfl (al_L hq hp) (kd_L q hp) (pt_L g q hp) ?_
        refine k_iload_n d_L_foretellLine_164 rfl rfl ?_
        refine k_iload d_L_foretellLine_165 rfl ?_
        refine k_iaddN d_L_foretellLine_167  ?_
        refine k_iaload d_L_foretellLine_168 (al_D hq hp) (kd_D q hp) (show vp_in _ (lnI g (idD q p)) by rw [ln_D g q hp]; exact vp_in_nI (show bg + k < _ by omega) (by omega)) ?_
        refine k_iload d_L_foretellLine_169 rfl ?_
        refine k_iadd d_L_foretellLine_171 ?_
        refine k_iconst (v := nI 1) d_L_foretellLine_172 (by decide) ?_
        refine k_iadd d_L_foretellLine_173 ?_
        refine k_iconst (v := nI 1) d_L_foretellLine_174 (by decide) ?_
        refine k_ishr d_L_foretellLine_175 ?_
        refine k_goto (tgt := 181) d_L_foretellLine_176 (by decide) ?_
        refine k_iastore d_L_foretellLine_181 (al_D hq hp) (kd_D q hp) (show vp_in _ (lnI g (idD q p)) by rw [ln_D g q hp]; exact vp_in_nI (show bg + k < _ by omega) (by omega)) ?_
        first | refine k_iinc1 d_L_foretellLine_182 rfl ?_ | refine k_iinc d_L_foretellLine_182 rfl ?_
        refine k_goto (tgt := 47) d_L_foretellLine_185 (by decide) ?_
        have b1 := ix_lt hcx hcy
        have b2 := ix_lt hcx2 hcy
        have b3 := ix_lt hcx hcy2
        have b4 := ix_lt hcx2 hcy2
        rw [nI_clamp (show bg + k < 2 ^ 31 by omega), nI_clamp (show wdN A p * cLm (hf hy) (wdN B p) + cLm (hf hx + nI k) (wdN A p) < 2 ^ 31 by omega), nI_clamp (show wdN A p * cLm (hf hy) (wdN B p) + cLm (hf (hx + nI 1) + nI k) (wdN A p) < 2 ^ 31 by omega), nI_clamp (show wdN A p * cLm (hf (hy + nI 1)) (wdN B p) + cLm (hf hx + nI k) (wdN A p) < 2 ^ 31 by omega), nI_clamp (show wdN A p * cLm (hf (hy + nI 1)) (wdN B p) + cLm (hf (hx + nI 1) + nI k) (wdN A p) < 2 ^ 31 by omega)]
        simp only [e2]
        have hst := cFl_s (κ := κ) (D := idD q p) (D2 := idD q2 p) (w := wdN A p) (h := wdN B p) (bg := bg) (n := k) (hx := hx) (hy := hy) (mx := mx)
        unfold cMx cTl at hst
        first
          | (rw [if_pos c_157] at hst; refine k_st hst ?_; exact k_forget 9 (k_forget 10 (k_forget 11 (k_forget 12 ih))))
          | (rw [if_neg c_157] at hst; rw [e1]; refine k_st hst ?_; exact k_forget 9 (k_forget 10 (k_forget 11 (k_forget 12 ih))))
  · have hk : cFl κ (idD q p) (idD q2 p) (wdN A p) (wdN B p) bg hx hy mx (szN p) (idL q p) 0 = κ (idL q p) 0 ∧ cFl κ (idD q p) (idD q2 p) (wdN A p) (wdN B p) bg hx hy mx (szN p) (idL q p) 1 = κ (idL q p) 1 := ⟨sa_k (id_LD q p q p hp hp), sa_k (id_LD q p q p hp hp)⟩
    refine k_iload d_L_foretellLine_47 rfl ?_
    refine k_aload_n d_L_foretellLine_49 rfl rfl ?_
    refine k_getE d_L_foretellLine_50 fL_15 rfl (al_L hq hp) (kd_L q hp) (hk.1.trans h1.1) ?_
    refine k_icmp_ge (tgt := 188) d_L_foretellLine_53 (by decide) (fun c_53 => ?_) (fun c_53 => ?_)
    · skip
      refine k_vret d_L_foretellLine_188 rfl ?_
      exact ⟨rfl, rfl, rfl⟩
    · exact absurd (nI_le (Nat.le_refl _) (by omega)) c_53

def fvA (p : Nat) (a : Int32) : Int32 := if p = 0 then a else a / nI 2
/-- what a plane's square becomes -/
def cFv (κ : Sg) (D D2 w h p cl : Nat) (a d mx : Int32) (i : Nat) : Int32 :=
  if a = 0 ∧ d = 0 ∧ mx = 0 then κ D2 i else cMx mx (κ D i) (cTl (κ D2) w h (nI 2 * nI (szN p * cl) + a) (nI 2 * nI (i / w) + d) (i % w - szN p * cl))
abbrev inQ (w p cl rw i : Nat) : Prop := (i % w) / szN p = cl ∧ (i / w) / szN p = rw
def cFt (κ : Sg) (D D2 w h p cl rw : Nat) (a d mx : Int32) (n : Nat) : Sg := sa κ D (fun i => if inQ w p cl rw i ∧ i / w < szN p * rw + n then cFv κ D D2 w h p cl a d mx i else κ D i)
def cFo (κ : Sg) (D D2 w h p cl rw : Nat) (a d mx : Int32) : Sg := sa κ D (fun i => if inQ w p cl rw i then cFv κ D D2 w h p cl a d mx i else κ D i)
theorem cFt_0 {κ : Sg} {D D2 w h p cl rw : Nat} {a d mx : Int32} : cFt κ D D2 w h p cl rw a d mx 0 = κ := sa_self (fun i => by
  rw [if_neg]
  rintro ⟨x, y⟩
  have := dv (szN_pos p).1 x.2
  omega)
theorem cFt_e {κ : Sg} {D D2 w h p cl rw : Nat} {a d mx : Int32} : cFt κ D D2 w h p cl rw a d mx (szN p) = cFo κ D D2 w h p cl rw a d mx := sa_ext (fun i => by
  by_cases e : inQ w p cl rw i
  · rw [if_pos ⟨e, (dv (szN_pos p).1 e.2).2⟩, if_pos e]
  · rw [if_neg (fun z => e z.1), if_neg e])
theorem ln_iff {w p cl rw n i : Nat} (hw : szN p * cl + szN p ≤ w) (hn : n < szN p) : ((szN p * rw + n) * w + szN p * cl ≤ i ∧ i < (szN p * rw + n) * w + szN p * cl + szN p) ↔ (inQ w p cl rw i ∧ i / w = szN p * rw + n) := by
  have hz := (szN_pos p).1
  have h9 := Nat.div_add_mod i w
  have hm := Nat.mod_lt i (show 0 < w by omega)
  constructor
  · rintro ⟨h1, h2⟩
    obtain ⟨k, hk⟩ : ∃ k, i = (szN p * rw + n) * w + (szN p * cl + k) := ⟨i - ((szN p * rw + n) * w + szN p * cl), by omega⟩
    have hk2 : k < szN p := by omega
    obtain ⟨e1, e2⟩ := (dm (w := w) (y := szN p * rw + n) (x := szN p * cl + k) (i := i) (by omega)).mp hk
    refine ⟨⟨?_, ?_⟩, e1⟩
    · rw [e2, Nat.mul_add_div hz, Nat.div_eq_of_lt hk2, Nat.add_zero]
    · rw [e1, Nat.mul_add_div hz, Nat.div_eq_of_lt hn, Nat.add_zero]
  · rintro ⟨⟨h1, h2⟩, h3⟩
    have := dv hz h1
    rw [h3, Nat.mul_comm] at h9
    omega
theorem cFt_s {κ κ2 : Sg} {D D2 w h p cl rw n : Nat} {a d mx : Int32} (hD : D ≠ D2) (hw : szN p * cl + szN p ≤ w) (hn : n < szN p)
    (he : κ2 = sa (cFt κ D D2 w h p cl rw a d mx n) D (fun i => if (szN p * rw + n) * w + szN p * cl ≤ i ∧ i < (szN p * rw + n) * w + szN p * cl + szN p then (if a = 0 ∧ d = 0 ∧ mx = 0 then cFt κ D D2 w h p cl rw a d mx n D2 i else cMx mx (cFt κ D D2 w h p cl rw a d mx n D i) (cTl (cFt κ D D2 w h p cl rw a d mx n D2) w h (nI 2 * nI (szN p * cl) + a) (nI 2 * nI (szN p * rw + n) + d) (i - ((szN p * rw + n) * w + szN p * cl)))) else cFt κ D D2 w h p cl rw a d mx n D i)) : κ2 = cFt κ D D2 w h p cl rw a d mx (n + 1) := by
  have e2 : cFt κ D D2 w h p cl rw a d mx n D2 = κ D2 := funext (fun j => sa_k (Ne.symm hD))
  have e1 : ∀ i, cFt κ D D2 w h p cl rw a d mx n D i = if inQ w p cl rw i ∧ i / w < szN p * rw + n then cFv κ D D2 w h p cl a d mx i else κ D i := fun i => sa_at _ _ _ _
  rw [he, e2]
  have e0 : cFt κ D D2 w h p cl rw a d mx n = sa κ D (fun i => if inQ w p cl rw i ∧ i / w < szN p * rw + n then cFv κ D D2 w h p cl a d mx i else κ D i) := rfl
  have key : ∀ F, sa (cFt κ D D2 w h p cl rw a d mx n) D F = sa κ D F := fun F => by rw [e0]; exact sa_sa
  rw [key]
  refine sa_ext (fun j => ?_)
  rw [e1 j]
  have hiff := ln_iff (cl := cl) (rw := rw) (i := j) hw hn
  by_cases h3 : (szN p * rw + n) * w + szN p * cl ≤ j ∧ j < (szN p * rw + n) * w + szN p * cl + szN p
  · obtain ⟨h4, h5⟩ := hiff.mp h3
    have hm : j - ((szN p * rw + n) * w + szN p * cl) = j % w - szN p * cl := by
      have h9 := Nat.div_add_mod j w
      rw [h5, Nat.mul_comm] at h9
      omega
    have h6 : inQ w p cl rw j ∧ j / w < szN p * rw + (n + 1) := ⟨h4, by omega⟩
    have h7 : ¬ (inQ w p cl rw j ∧ j / w < szN p * rw + n) := fun z => by have := z.2; omega
    rw [if_pos h3, if_pos h6, if_neg h7, hm]
    unfold cFv
    rw [h5]
  · rw [if_neg h3]
    by_cases h4 : inQ w p cl rw j ∧ j / w < szN p * rw + n
    · rw [if_pos h4, if_pos ⟨h4.1, by have := h4.2; omega⟩]
    · rw [if_neg h4, if_neg (fun z => by
        have : ¬ j / w = szN p * rw + n := fun z2 => h3 (hiff.mpr ⟨z.1, z2⟩)
        exact h4 ⟨z.1, by have := z.2; omega⟩)]

theorem l_foretell {s0 : State} {l : Launch} {c : Cx} {g : Gh} {κ : Sg} {q q2 p A B cl rw vi : Nat} {mx : Int32} (hq : q < 3 + gC g) (hq2 : q2 < 3 + gC g) (hqq : q ≠ q2) (hp : p < 3) (hA : okAB A B) (h1 : okP g κ q p A B) (h2 : wdN A p * wdN B p ≤ gL g (idD q2 p)) (h3 : gL g (idD q2 p) ≤ 4096) (hvi : al g vi) (hkv : kdI vi = 11) (hlv : lnI g vi = 2) (hc0 : cl < A) (hr0 : rw < B) : KC s0 l M_L_foretell c [.ref (gA g (idL q p)), .ref (gA g (idL q2 p)), .int (nI cl), .int (nI rw), .ref (gA g vi), .int mx] g κ (fun o g' κ' => o = .inl none ∧ g' = g ∧ κ' = cFo κ (idD q p) (idD q2 p) (wdN A p) (wdN B p) p cl rw (fvA p (κ vi 0)) (fvA p (κ vi 1)) mx) := by
  refine k_in (by decide) rfl rfl (Nat.le_of_ble_eq_true rfl) (fun hB => ?_)
  have hr1 := wd_r (p := p) hA.1
  have hr2 := wd_r (p := p) hA.2
  have hl := h1.2.2.2
  have hsz := szN_pos p
  have hcl : szN p * cl + szN p ≤ wdN A p := by
    rw [wdN_sz]
    have := Nat.mul_le_mul_left (szN p) (show cl + 1 ≤ A from hc0)
    rw [Nat.mul_add, Nat.mul_one] at this
    exact this
  have hrl : szN p * rw + szN p ≤ wdN B p := by
    rw [wdN_sz]
    have := Nat.mul_le_mul_left (szN p) (show rw + 1 ≤ B from hr0)
    rw [Nat.mul_add, Nat.mul_one] at this
    exact this
  have key : KQ s0 l M_L_foretell c hB 68 [some (.ref (gA g (idL q p))), some (.ref (gA g (idL q2 p))), some (.int (nI cl)), some (.int (nI rw)), some (.ref (gA g vi)), some (.int (mx)), some (.int (fvA p (κ vi 0))), some (.int (fvA p (κ vi 1))), some (.int (nI (szN p * cl))), some (.int (nI (szN p * rw))), some (.int (nI (szN p * rw + 0))), none] [] g κ (fun o g' κ' => o = .inl none ∧ g' = g ∧ κ' = cFo κ (idD q p) (idD q2 p) (wdN A p) (wdN B p) p cl rw (fvA p (κ vi 0)) (fvA p (κ vi 1)) mx) := by
    have key := k_loop (s0 := s0) (l := l) (M := M_L_foretell) (c := c) (hB := hB) (g := g) (pc := 68) (P := fun o g' κ' => o = .inl none ∧ g' = g ∧ κ' = cFo κ (idD q p) (idD q2 p) (wdN A p) (wdN B p) p cl rw (fvA p (κ vi 0)) (fvA p (κ vi 1)) mx) (szN p) (fun n => cFt κ (idD q p) (idD q2 p) (wdN A p) (wdN B p) p cl rw (fvA p (κ vi 0)) (fvA p (κ vi 1)) mx n) (fun n => [some (.ref (gA g (idL q p))), some (.ref (gA g (idL q2 p))), some (.int (nI cl)), some (.int (nI rw)), some (.ref (gA g vi)), some (.int (mx)), some (.int (fvA p (κ vi 0))), some (.int (fvA p (κ vi 1))), some (.int (nI (szN p * cl))), some (.int (nI (szN p * rw))), some (.int (nI (szN p * rw + n))), none]) (fun n hn ih => ?_) ?_ 0 (Nat.zero_le _)
    · rw [cFt_0] at key
      exact key
    · have hP : okP g (cFt κ (idD q p) (idD q2 p) (wdN A p) (wdN B p) p cl rw (fvA p (κ vi 0)) (fvA p (κ vi 1)) mx n) q p A B := ⟨(sa_k (id_LD q p q p hp hp)).trans h1.1, (sa_k (id_LD q p q p hp hp)).trans h1.2.1, (sa_k (id_LD q p q p hp hp)).trans h1.2.2.1, h1.2.2.2⟩
      have hbg : (szN p * rw + n) * wdN A p + szN p * cl + szN p ≤ gL g (idD q p) := by
        have h8 := ix_lt (show szN p * cl + szN p - 1 < wdN A p by omega) (show szN p * rw + n < wdN B p by omega)
        rw [Nat.mul_comm] at h8
        omega
      have hbg2 : (szN p * rw + n) * wdN A p + szN p * cl + szN p ≤ gL g (idD q2 p) := by
        have h8 := ix_lt (show szN p * cl + szN p - 1 < wdN A p by omega) (show szN p * rw + n < wdN B p by omega)
        rw [Nat.mul_comm] at h8
        omega
      refine k_iload d_L_foretell_68 rfl ?_
      refine k_iload d_L_foretell_70 rfl ?_
      refine k_aload_n d_L_foretell_72 rfl rfl ?_
      refine k_getE d_L_foretell_73 fL_15 rfl (al_L hq hp) (kd_L q hp) hP.1 ?_
      refine k_iaddN d_L_foretell_76  ?_
      refine k_icmp_ge (tgt := 158) d_L_foretell_77 (by decide) (fun c_77 => ?_) (fun c_77 => ?_)
      · exact absurd ((nI_leI (by omega) (by omega)).mp c_77) (by omega)
      · skip
        refine k_iload d_L_foretell_80 rfl ?_
        refine k_aload_n d_L_foretell_82 rfl rfl ?_
        refine k_getE d_L_foretell_83 fL_19 rfl (al_L hq hp) (kd_L q hp) hP.2.1 ?_
        refine k_imulN d_L_foretell_86  ?_
        refine k_iload d_L_foretell_87 rfl ?_
        refine k_iaddN d_L_foretell_89  ?_
        refine k_istore d_L_foretell_90 (Nat.le_of_ble_eq_true rfl) ?_
        refine k_iload d_L_foretell_92 rfl ?_
        refine k_if_ne (tgt := 129) d_L_foretell_94 (by decide) (fun c_94 => ?_) (fun c_94 => ?_)
        · skip
          refine k_aload_n d_L_foretell_129 rfl rfl ?_
          refine k_aload_n d_L_foretell_130 rfl rfl ?_
          refine k_iload d_L_foretell_131 rfl ?_
          refine k_iconst (v := nI 2) d_L_foretell_133 (by decide) ?_
          refine k_iload d_L_foretell_134 rfl ?_
          refine k_imul d_L_foretell_136 ?_
          refine k_iload d_L_foretell_137 rfl ?_
          refine k_iadd d_L_foretell_139 ?_
          refine k_iconst (v := nI 2) d_L_foretell_140 (by decide) ?_
          refine k_iload d_L_foretell_141 rfl ?_
          refine k_imul d_L_foretell_143 ?_
          refine k_iload d_L_foretell_144 rfl ?_
          refine k_iadd d_L_foretell_146 ?_
          refine k_iload d_L_foretell_147 rfl ?_
          refine k_callv (As := [_, _, _, _, _]) d_L_foretell_149 lL_31 mv_L_foretellLine rfl rfl (al_L hq hp) (kd_L q hp) rfl rfl (Nat.le_of_ble_eq_true rfl) (by decide) (l_foretellLine hq hq2 hqq hp hA hP h2 h3 hbg) ?_
          first | refine k_iinc1 d_L_foretell_152 rfl ?_ | refine k_iinc d_L_foretell_152 rfl ?_
          refine k_goto (tgt := 68) d_L_foretell_155 (by decide) ?_
          have hnz : ¬ (fvA p (κ vi 0) = 0 ∧ fvA p (κ vi 1) = 0 ∧ mx = 0) := fun h9 => c_94 h9.1
          refine k_st (κ2 := cFt κ (idD q p) (idD q2 p) (wdN A p) (wdN B p) p cl rw (fvA p (κ vi 0)) (fvA p (κ vi 1)) mx (n + 1)) (cFt_s (id_DD hp hp hqq) hcl hn ?_) ?_
          · unfold cFl
            refine sa_ext (fun i => ?_)
            rw [if_neg hnz]
          · exact k_forget 11 ih
        · skip
          refine k_iload d_L_foretell_97 rfl ?_
          refine k_if_ne (tgt := 129) d_L_foretell_99 (by decide) (fun c_99 => ?_) (fun c_99 => ?_)
          · skip
            refine k_aload_n d_L_foretell_129 rfl rfl ?_
            refine k_aload_n d_L_foretell_130 rfl rfl ?_
            refine k_iload d_L_foretell_131 rfl ?_
            refine k_iconst (v := nI 2) d_L_foretell_133 (by decide) ?_
            refine k_iload d_L_foretell_134 rfl ?_
            refine k_imul d_L_foretell_136 ?_
            refine k_iload d_L_foretell_137 rfl ?_
            refine k_iadd d_L_foretell_139 ?_
            refine k_iconst (v := nI 2) d_L_foretell_140 (by decide) ?_
            refine k_iload d_L_foretell_141 rfl ?_
            refine k_imul d_L_foretell_143 ?_
            refine k_iload d_L_foretell_144 rfl ?_
            refine k_iadd d_L_foretell_146 ?_
            refine k_iload d_L_foretell_147 rfl ?_
            refine k_callv (As := [_, _, _, _, _]) d_L_foretell_149 lL_31 mv_L_foretellLine rfl rfl (al_L hq hp) (kd_L q hp) rfl rfl (Nat.le_of_ble_eq_true rfl) (by decide) (l_foretellLine hq hq2 hqq hp hA hP h2 h3 hbg) ?_
            first | refine k_iinc1 d_L_foretell_152 rfl ?_ | refine k_iinc d_L_foretell_152 rfl ?_
            refine k_goto (tgt := 68) d_L_foretell_155 (by decide) ?_
            have hnz : ¬ (fvA p (κ vi 0) = 0 ∧ fvA p (κ vi 1) = 0 ∧ mx = 0) := fun h9 => c_99 h9.2.1
            refine k_st (κ2 := cFt κ (idD q p) (idD q2 p) (wdN A p) (wdN B p) p cl rw (fvA p (κ vi 0)) (fvA p (κ vi 1)) mx (n + 1)) (cFt_s (id_DD hp hp hqq) hcl hn ?_) ?_
            · unfold cFl
              refine sa_ext (fun i => ?_)
              rw [if_neg hnz]
            · exact k_forget 11 ih
          · skip
            refine k_iload d_L_foretell_102 rfl ?_
            refine k_if_ne (tgt := 129) d_L_foretell_104 (by decide) (fun c_104 => ?_) (fun c_104 => ?_)
            · skip
              refine k_aload_n d_L_foretell_129 rfl rfl ?_
              refine k_aload_n d_L_foretell_130 rfl rfl ?_
              refine k_iload d_L_foretell_131 rfl ?_
              refine k_iconst (v := nI 2) d_L_foretell_133 (by decide) ?_
              refine k_iload d_L_foretell_134 rfl ?_
              refine k_imul d_L_foretell_136 ?_
              refine k_iload d_L_foretell_137 rfl ?_
              refine k_iadd d_L_foretell_139 ?_
              refine k_iconst (v := nI 2) d_L_foretell_140 (by decide) ?_
              refine k_iload d_L_foretell_141 rfl ?_
              refine k_imul d_L_foretell_143 ?_
              refine k_iload d_L_foretell_144 rfl ?_
              refine k_iadd d_L_foretell_146 ?_
              refine k_iload d_L_foretell_147 rfl ?_
              refine k_callv (As := [_, _, _, _, _]) d_L_foretell_149 lL_31 mv_L_foretellLine rfl rfl (al_L hq hp) (kd_L q hp) rfl rfl (Nat.le_of_ble_eq_true rfl) (by decide) (l_foretellLine hq hq2 hqq hp hA hP h2 h3 hbg) ?_
              first | refine k_iinc1 d_L_foretell_152 rfl ?_ | refine k_iinc d_L_foretell_152 rfl ?_
              refine k_goto (tgt := 68) d_L_foretell_155 (by decide) ?_
              have hnz : ¬ (fvA p (κ vi 0) = 0 ∧ fvA p (κ vi 1) = 0 ∧ mx = 0) := fun h9 => c_104 h9.2.2
              refine k_st (κ2 := cFt κ (idD q p) (idD q2 p) (wdN A p) (wdN B p) p cl rw (fvA p (κ vi 0)) (fvA p (κ vi 1)) mx (n + 1)) (cFt_s (id_DD hp hp hqq) hcl hn ?_) ?_
              · unfold cFl
                refine sa_ext (fun i => ?_)
                rw [if_neg hnz]
              · exact k_forget 11 ih
            · skip
              refine k_aload_n d_L_foretell_107 rfl rfl ?_
              refine k_getR d_L_foretell_108 fL_9 rfl (al_L hq2 hp) (kd_L q2 hp) (pt_L g q2 hp) ?_
              refine k_iload d_L_foretell_111 rfl ?_
              refine k_aload_n d_L_foretell_113 rfl rfl ?_
              refine k_getR d_L_foretell_114 fL_9 rfl (al_L hq hp) (kd_L q hp) (pt_L g q hp) ?_
              refine k_iload d_L_foretell_117 rfl ?_
              refine k_aload_n d_L_foretell_119 rfl rfl ?_
              refine k_getE d_L_foretell_120 fL_15 rfl (al_L hq hp) (kd_L q hp) hP.1 ?_
              refine k_copy d_L_foretell_123 lL_25 w_cp1 w_cp2 w_cp3 (al_D hq2 hp) (al_D hq hp) (kd_D q2 hp) (kd_D q hp) (nI_pos (by omega)) (nI_pos (by omega)) (nI_pos (by omega)) (by rw [nI_clamp (show (szN p * rw + n) * wdN A p + szN p * cl < 2 ^ 31 by omega), nI_clamp (show szN p < 2 ^ 31 by omega), ln_D g q2 hp]; omega) (by rw [nI_clamp (show (szN p * rw + n) * wdN A p + szN p * cl < 2 ^ 31 by omega), nI_clamp (show szN p < 2 ^ 31 by omega), ln_D g q hp]; omega) (Nat.le_of_ble_eq_true rfl) (by decide) ?_
              refine k_goto (tgt := 152) d_L_foretell_126 (by decide) ?_
              first | refine k_iinc1 d_L_foretell_152 rfl ?_ | refine k_iinc d_L_foretell_152 rfl ?_
              refine k_goto (tgt := 68) d_L_foretell_155 (by decide) ?_
              refine k_st (κ2 := cFt κ (idD q p) (idD q2 p) (wdN A p) (wdN B p) p cl rw (fvA p (κ vi 0)) (fvA p (κ vi 1)) mx (n + 1)) (cFt_s (id_DD hp hp hqq) hcl hn ?_) ?_
              · refine sa_ext (fun i => ?_)
                rw [if_pos (show fvA p (κ vi 0) = 0 ∧ fvA p (κ vi 1) = 0 ∧ mx = 0 from ⟨c_94, c_99, c_104⟩), nI_clamp (show (szN p * rw + n) * wdN A p + szN p * cl < 2 ^ 31 by omega), nI_clamp (show szN p < 2 ^ 31 by omega)]
                by_cases h9 : (szN p * rw + n) * wdN A p + szN p * cl ≤ i ∧ i < (szN p * rw + n) * wdN A p + szN p * cl + szN p
                · have e9 : (szN p * rw + n) * wdN A p + szN p * cl + (i - ((szN p * rw + n) * wdN A p + szN p * cl)) = i := by omega
                  rw [if_pos h9, if_pos h9, e9]
                · rw [if_neg h9, if_neg h9]
              · exact k_forget 11 ih
    · have hP : okP g (cFt κ (idD q p) (idD q2 p) (wdN A p) (wdN B p) p cl rw (fvA p (κ vi 0)) (fvA p (κ vi 1)) mx (szN p)) q p A B := ⟨(sa_k (id_LD q p q p hp hp)).trans h1.1, (sa_k (id_LD q p q p hp hp)).trans h1.2.1, (sa_k (id_LD q p q p hp hp)).trans h1.2.2.1, h1.2.2.2⟩
      refine k_iload d_L_foretell_68 rfl ?_
      refine k_iload d_L_foretell_70 rfl ?_
      refine k_aload_n d_L_foretell_72 rfl rfl ?_
      refine k_getE d_L_foretell_73 fL_15 rfl (al_L hq hp) (kd_L q hp) hP.1 ?_
      refine k_iaddN d_L_foretell_76  ?_
      refine k_icmp_ge (tgt := 158) d_L_foretell_77 (by decide) (fun c_77 => ?_) (fun c_77 => ?_)
      · skip
        refine k_vret d_L_foretell_158 rfl ?_
        exact ⟨rfl, rfl, cFt_e⟩
      · exact absurd (nI_le (Nat.le_refl _) (by omega)) c_77
  refine k_aload_n d_L_foretell_0 rfl rfl ?_
  refine k_getE d_L_foretell_1 fL_15 rfl (al_L hq hp) (kd_L q hp) h1.1 ?_
  refine k_bipush (v := nI 16) d_L_foretell_4 (by decide) ?_
  refine k_icmp_ne (tgt := 16) d_L_foretell_6 (by decide) (fun c_6 => ?_) (fun c_6 => ?_)
  · skip
    refine k_aload d_L_foretell_16 rfl ?_
    refine k_iconst (v := nI 0) d_L_foretell_18 (by decide) ?_
    refine k_iaload d_L_foretell_19 hvi hkv (show vp_in _ (lnI g vi) by rw [hlv]; exact vp_in_nI (show 0 < 2 by decide) (by decide)) ?_
    refine k_iconst (v := nI 2) d_L_foretell_20 (by decide) ?_
    refine k_idiv d_L_foretell_21 (by decide) ?_
    refine k_top (w := fvA p (κ vi 0)) (by unfold fvA; first | (rw [if_pos (by unfold szN at c_6; by_cases h9 : p = 0; exact h9; rw [if_neg h9] at c_6; exact absurd c_6 (by decide))]; rfl) | (rw [if_neg (fun h9 => c_6 (by unfold szN; rw [if_pos h9]))]; rfl)) ?_
    refine k_istore d_L_foretell_22 (Nat.le_of_ble_eq_true rfl) ?_
    refine k_aload_n d_L_foretell_24 rfl rfl ?_
    refine k_getE d_L_foretell_25 fL_15 rfl (al_L hq hp) (kd_L q hp) h1.1 ?_
    refine k_bipush (v := nI 16) d_L_foretell_28 (by decide) ?_
    refine k_icmp_ne (tgt := 40) d_L_foretell_30 (by decide) (fun c_30 => ?_) (fun c_30 => ?_)
    · skip
      refine k_aload d_L_foretell_40 rfl ?_
      refine k_iconst (v := nI 1) d_L_foretell_42 (by decide) ?_
      refine k_iaload d_L_foretell_43 hvi hkv (show vp_in _ (lnI g vi) by rw [hlv]; exact vp_in_nI (show 1 < 2 by decide) (by decide)) ?_
      refine k_iconst (v := nI 2) d_L_foretell_44 (by decide) ?_
      refine k_idiv d_L_foretell_45 (by decide) ?_
      refine k_top (w := fvA p (κ vi 1)) (by unfold fvA; first | (rw [if_pos (by unfold szN at c_30; by_cases h9 : p = 0; exact h9; rw [if_neg h9] at c_30; exact absurd c_30 (by decide))]; rfl) | (rw [if_neg (fun h9 => c_30 (by unfold szN; rw [if_pos h9]))]; rfl)) ?_
      refine k_istore d_L_foretell_46 (Nat.le_of_ble_eq_true rfl) ?_
      refine k_aload_n d_L_foretell_48 rfl rfl ?_
      refine k_getE d_L_foretell_49 fL_15 rfl (al_L hq hp) (kd_L q hp) h1.1 ?_
      refine k_iload_n d_L_foretell_52 rfl rfl ?_
      refine k_imulN d_L_foretell_53  ?_
      refine k_istore d_L_foretell_54 (Nat.le_of_ble_eq_true rfl) ?_
      refine k_aload_n d_L_foretell_56 rfl rfl ?_
      refine k_getE d_L_foretell_57 fL_15 rfl (al_L hq hp) (kd_L q hp) h1.1 ?_
      refine k_iload_n d_L_foretell_60 rfl rfl ?_
      refine k_imulN d_L_foretell_61  ?_
      refine k_istore d_L_foretell_62 (Nat.le_of_ble_eq_true rfl) ?_
      refine k_iload d_L_foretell_64 rfl ?_
      refine k_istore d_L_foretell_66 (Nat.le_of_ble_eq_true rfl) ?_
      exact key
    · skip
      refine k_aload d_L_foretell_33 rfl ?_
      refine k_iconst (v := nI 1) d_L_foretell_35 (by decide) ?_
      refine k_iaload d_L_foretell_36 hvi hkv (show vp_in _ (lnI g vi) by rw [hlv]; exact vp_in_nI (show 1 < 2 by decide) (by decide)) ?_
      refine k_goto (tgt := 46) d_L_foretell_37 (by decide) ?_
      refine k_top (w := fvA p (κ vi 1)) (by unfold fvA; first | (rw [if_pos (by unfold szN at c_30; by_cases h9 : p = 0; exact h9; rw [if_neg h9] at c_30; exact absurd c_30 (by decide))]; rfl) | (rw [if_neg (fun h9 => c_30 (by unfold szN; rw [if_pos h9]))]; rfl)) ?_
      refine k_istore d_L_foretell_46 (Nat.le_of_ble_eq_true rfl) ?_
      refine k_aload_n d_L_foretell_48 rfl rfl ?_
      refine k_getE d_L_foretell_49 fL_15 rfl (al_L hq hp) (kd_L q hp) h1.1 ?_
      refine k_iload_n d_L_foretell_52 rfl rfl ?_
      refine k_imulN d_L_foretell_53  ?_
      refine k_istore d_L_foretell_54 (Nat.le_of_ble_eq_true rfl) ?_
      refine k_aload_n d_L_foretell_56 rfl rfl ?_
      refine k_getE d_L_foretell_57 fL_15 rfl (al_L hq hp) (kd_L q hp) h1.1 ?_
      refine k_iload_n d_L_foretell_60 rfl rfl ?_
      refine k_imulN d_L_foretell_61  ?_
      refine k_istore d_L_foretell_62 (Nat.le_of_ble_eq_true rfl) ?_
      refine k_iload d_L_foretell_64 rfl ?_
      refine k_istore d_L_foretell_66 (Nat.le_of_ble_eq_true rfl) ?_
      exact key
  · skip
    refine k_aload d_L_foretell_9 rfl ?_
    refine k_iconst (v := nI 0) d_L_foretell_11 (by decide) ?_
    refine k_iaload d_L_foretell_12 hvi hkv (show vp_in _ (lnI g vi) by rw [hlv]; exact vp_in_nI (show 0 < 2 by decide) (by decide)) ?_
    refine k_goto (tgt := 22) d_L_foretell_13 (by decide) ?_
    refine k_top (w := fvA p (κ vi 0)) (by unfold fvA; first | (rw [if_pos (by unfold szN at c_6; by_cases h9 : p = 0; exact h9; rw [if_neg h9] at c_6; exact absurd c_6 (by decide))]; rfl) | (rw [if_neg (fun h9 => c_6 (by unfold szN; rw [if_pos h9]))]; rfl)) ?_
    refine k_istore d_L_foretell_22 (Nat.le_of_ble_eq_true rfl) ?_
    refine k_aload_n d_L_foretell_24 rfl rfl ?_
    refine k_getE d_L_foretell_25 fL_15 rfl (al_L hq hp) (kd_L q hp) h1.1 ?_
    refine k_bipush (v := nI 16) d_L_foretell_28 (by decide) ?_
    refine k_icmp_ne (tgt := 40) d_L_foretell_30 (by decide) (fun c_30 => ?_) (fun c_30 => ?_)
    · skip
      refine k_aload d_L_foretell_40 rfl ?_
      refine k_iconst (v := nI 1) d_L_foretell_42 (by decide) ?_
      refine k_iaload d_L_foretell_43 hvi hkv (show vp_in _ (lnI g vi) by rw [hlv]; exact vp_in_nI (show 1 < 2 by decide) (by decide)) ?_
      refine k_iconst (v := nI 2) d_L_foretell_44 (by decide) ?_
      refine k_idiv d_L_foretell_45 (by decide) ?_
      refine k_top (w := fvA p (κ vi 1)) (by unfold fvA; first | (rw [if_pos (by unfold szN at c_30; by_cases h9 : p = 0; exact h9; rw [if_neg h9] at c_30; exact absurd c_30 (by decide))]; rfl) | (rw [if_neg (fun h9 => c_30 (by unfold szN; rw [if_pos h9]))]; rfl)) ?_
      refine k_istore d_L_foretell_46 (Nat.le_of_ble_eq_true rfl) ?_
      refine k_aload_n d_L_foretell_48 rfl rfl ?_
      refine k_getE d_L_foretell_49 fL_15 rfl (al_L hq hp) (kd_L q hp) h1.1 ?_
      refine k_iload_n d_L_foretell_52 rfl rfl ?_
      refine k_imulN d_L_foretell_53  ?_
      refine k_istore d_L_foretell_54 (Nat.le_of_ble_eq_true rfl) ?_
      refine k_aload_n d_L_foretell_56 rfl rfl ?_
      refine k_getE d_L_foretell_57 fL_15 rfl (al_L hq hp) (kd_L q hp) h1.1 ?_
      refine k_iload_n d_L_foretell_60 rfl rfl ?_
      refine k_imulN d_L_foretell_61  ?_
      refine k_istore d_L_foretell_62 (Nat.le_of_ble_eq_true rfl) ?_
      refine k_iload d_L_foretell_64 rfl ?_
      refine k_istore d_L_foretell_66 (Nat.le_of_ble_eq_true rfl) ?_
      exact key
    · skip
      refine k_aload d_L_foretell_33 rfl ?_
      refine k_iconst (v := nI 1) d_L_foretell_35 (by decide) ?_
      refine k_iaload d_L_foretell_36 hvi hkv (show vp_in _ (lnI g vi) by rw [hlv]; exact vp_in_nI (show 1 < 2 by decide) (by decide)) ?_
      refine k_goto (tgt := 46) d_L_foretell_37 (by decide) ?_
      refine k_top (w := fvA p (κ vi 1)) (by unfold fvA; first | (rw [if_pos (by unfold szN at c_30; by_cases h9 : p = 0; exact h9; rw [if_neg h9] at c_30; exact absurd c_30 (by decide))]; rfl) | (rw [if_neg (fun h9 => c_30 (by unfold szN; rw [if_pos h9]))]; rfl)) ?_
      refine k_istore d_L_foretell_46 (Nat.le_of_ble_eq_true rfl) ?_
      refine k_aload_n d_L_foretell_48 rfl rfl ?_
      refine k_getE d_L_foretell_49 fL_15 rfl (al_L hq hp) (kd_L q hp) h1.1 ?_
      refine k_iload_n d_L_foretell_52 rfl rfl ?_
      refine k_imulN d_L_foretell_53  ?_
      refine k_istore d_L_foretell_54 (Nat.le_of_ble_eq_true rfl) ?_
      refine k_aload_n d_L_foretell_56 rfl rfl ?_
      refine k_getE d_L_foretell_57 fL_15 rfl (al_L hq hp) (kd_L q hp) h1.1 ?_
      refine k_iload_n d_L_foretell_60 rfl rfl ?_
      refine k_imulN d_L_foretell_61  ?_
      refine k_istore d_L_foretell_62 (Nat.le_of_ble_eq_true rfl) ?_
      refine k_iload d_L_foretell_64 rfl ?_
      refine k_istore d_L_foretell_66 (Nat.le_of_ble_eq_true rfl) ?_
      exact key

