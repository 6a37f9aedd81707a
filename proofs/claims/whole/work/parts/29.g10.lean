/-! ===== passes, allSquares, picture ===== -/
abbrev SQ : List Nat := [4, 6, 9, 24, 25, 26, 27, 28, 29, 30, 31, 32, 33, 34, 35, 36, 38, 39, 40, 41]
def kq (σ σ' : Sg) : Prop := kp SQ σ σ' ∧ av σ σ'
theorem kq.refl (σ : Sg) : kq σ σ := ⟨kp.refl _ _, av.refl _⟩
theorem kq.trans {a b c : Sg} (h : kq a b) (h' : kq b c) : kq a c := ⟨h.1.trans h'.1, h.2.trans h'.2⟩
theorem kq.su {σ : Sg} {k j : Nat} {v : Int32} (h : k ∈ SQ) (h4 : k ≠ 4) : kq σ (su σ k j v) := ⟨kp.su h, av_su (fun e => by subst e; simp at h) h4 (fun e => by subst e; simp at h)⟩
theorem kq.sa {σ : Sg} {k : Nat} {f : Nat → Int32} (h : k ∈ SQ) (h4 : k ≠ 4) : kq σ (sa σ k f) := ⟨kp.sa h, av_sa (fun e => by subst e; simp at h) h4 (fun e => by subst e; simp at h)⟩
theorem kq.kp {S : List Nat} {a b : Sg} (h : kp S a b) (hs : ∀ k, k ∈ S → k ∈ SQ) (h4 : 4 ∉ S) : kq a b := ⟨h.mono hs, av_eq (h.eqOn (fun k hk => by
  simp at hk
  rcases hk with rfl | rfl | rfl
  · exact fun e => by have := hs 3 e; simp at this
  · exact h4
  · exact fun e => by have := hs 5 e; simp at this))⟩
theorem kq_bit (σ : Sg) : kq σ (fBit σ).2 := ⟨kp.tk (tk_bit σ) (by simp) (by simp), av_bit σ⟩
theorem kq_num (n : Nat) (v : Int32) (σ : Sg) : kq σ (fNum n v σ).2 := ⟨kp.tk (tk_num n v σ) (by simp) (by simp), av_num n v σ⟩
theorem kq_na (n : Nat) (σ : Sg) : kq σ (fNA n σ).2 := ⟨kp.tk (tk_na n σ) (by simp) (by simp), av_na n σ⟩
theorem kq_u (f z : Nat) (σ : Sg) : kq σ (fU f z σ).2 := ⟨kp.tk (tk_u f z σ) (by simp) (by simp), av_u f z σ⟩
theorem kq_al (f : Nat) (σ : Sg) : kq σ (fAl f σ) := ⟨kp.tk (tk_al f σ) (by simp) (by simp), av_al f σ⟩
theorem kq_fW (σ : Sg) (x : Int32) : kq σ (fW σ x) := ⟨kp.tk (tk_fW σ x) (by simp) (by simp), av_fW σ x⟩
theorem kq_vc (r : Int32) (n k : Nat) (σ : Sg) : kq σ (fVc r n k σ).2 := ⟨(kp_vc n k σ).mono (by simp), av_vc n k σ⟩
theorem kq_ab (A B s : Nat) (wh : Int32) (n b : Nat) (σ : Sg) : kq σ (fAB A B s wh n b σ).2 := ⟨(kp_ab n b σ).mono (by simp), av_ab n b σ⟩
theorem kq_fT (σ : Sg) (A B s : Nat) : kq σ (fT σ A B s) := kq.sa (by simp) (by decide)
theorem kq_rV (σ : Sg) : kq σ (rV σ) := kq.kp (kp_rV σ) (by simp) (by decide)
theorem kq_rD (σ : Sg) : kq σ (rD σ) := kq.kp (kp_rD σ) (by simp) (by decide)
theorem kq_zv (σ : Sg) (n : Nat) : kq σ (fZv σ n) := kq.sa (by simp) (by decide)
theorem kq_E (mv : Int32) (σ : Sg) : kq σ (sqE mv σ) := by
  have h1 : ∀ v : Int32, kq σ (su (su σ 24 0 (σ 24 0 + nI 1)) 40 0 v) := fun v => (kq.su (by simp) (by decide)).trans (kq.su (by simp) (by decide))
  unfold sqE
  split
  · split
    · split
      · exact ((h1 _).trans (kq_rD _)).trans (kq_rV _)
      · exact (h1 _).trans (kq_rD _)
    · exact (h1 _).trans (kq_rD _)
  · exact (h1 _).trans (kq_rV _)
theorem kq_F (A B s : Nat) (σ : Sg) : kq σ (sqF A B s σ) := by
  unfold sqF
  split
  · exact kq_fT _ _ _ _
  · exact kq.refl _
theorem kq_D (A B s : Nat) (mv wh : Int32) (σ : Sg) : kq σ (sqD A B s mv wh σ).2 := by
  unfold sqD
  split
  · exact kq.refl _
  · split
    · exact (kq_F A B s σ).trans (kq_ab _ _ _ _ _ _ _)
    · exact ((kq_F A B s σ).trans (kq_ab _ _ _ _ _ _ _)).trans (kq_E _ _)
theorem kq_C (A B s : Nat) (mv cd : Int32) (σ : Sg) : kq σ (sqC A B s mv cd σ).2 := by
  unfold sqC
  split
  · split
    · exact kq_D _ _ _ _ _ _
    · exact (kq_num 6 0 σ).trans (kq_D _ _ _ _ _ _)
  · exact kq_D _ _ _ _ _ _
theorem kq_B (A B s : Nat) (mv cd : Int32) (σ : Sg) : kq σ (sqB A B s mv cd σ).2 := by
  unfold sqB
  split
  · exact kq_C _ _ _ _ _ _
  · split
    · exact kq_vc _ _ _ _
    · exact (kq_vc _ _ _ _).trans (kq_C _ _ _ _ _ _)
theorem kq_V (A B s : Nat) (mv cd : Int32) (σ : Sg) : kq σ (sqV A B s mv cd σ).2 := by
  unfold sqV
  split
  · exact kq_vc _ _ _ _
  · exact (kq_vc _ _ _ _).trans (kq_B _ _ _ _ _ _)
theorem kq_A (A B s : Nat) (mv cd : Int32) (σ : Sg) : kq σ (sqA A B s mv cd σ).2 := by
  unfold sqA
  split
  · split
    · exact kq_B _ _ _ _ _ _
    · exact kq_V _ _ _ _ _ _
  · split
    · exact kq_B _ _ _ _ _ _
    · exact kq_V _ _ _ _ _ _
theorem kq_9 (A B s : Nat) (mv cd : Int32) (σ : Sg) : kq σ (sq9 A B s mv cd σ).2 := by
  unfold sq9
  split
  · exact kq.refl _
  · exact (kq_zv σ 4).trans (kq_A _ _ _ _ _ _)
theorem kq_8 (A B s : Nat) (mv cd : Int32) (σ : Sg) : kq σ (sq8 A B s mv cd σ).2 := by
  unfold sq8
  split
  · exact kq_9 _ _ _ _ _ _
  · split
    · exact (((kq_bit σ).trans (kq_na 5 _)).trans (kq.su (by simp) (by decide))).trans (kq_9 _ _ _ _ _ _)
    · exact (kq_bit σ).trans (kq_9 _ _ _ _ _ _)
theorem kq_7 (A B s : Nat) (mv : Int32) (σ : Sg) : kq σ (sq7 A B s mv σ).2 := by
  unfold sq7
  split
  · split
    · exact (kq_bit σ).trans (kq_8 _ _ _ _ _ _)
    · exact (kq_bit σ).trans (kq_8 _ _ _ _ _ _)
  · exact kq_8 _ _ _ _ _ _
theorem kq_W (σ : Sg) : kq σ (sqW σ) := (((kq_bit σ).trans (kq.su (by simp) (by decide))).trans (kq_bit _)).trans (kq.su (by simp) (by decide))
theorem kq_6 (A B s : Nat) (σ : Sg) : kq σ (sq6 A B s σ).2 := by
  unfold sq6
  split
  · split
    · exact ((kq_bit σ).trans (kq.su (by simp) (by decide))).trans (kq_7 _ _ _ _ _)
    · split
      · exact (kq_W σ).trans (kq_7 _ _ _ _ _)
      · split
        · split
          · exact (kq_W σ).trans (kq_fW _ _)
          · exact (kq_W σ).trans (kq_7 _ _ _ _ _)
        · exact (kq_W σ).trans (kq_7 _ _ _ _ _)
  · exact kq_7 _ _ _ _ _
theorem kq_I (σ : Sg) (v : Int32) : kq σ (sqI σ v) := ((kq.su (by simp) (by decide)).trans (kq.su (by simp) (by decide))).trans (kq.su (by simp) (by decide))
theorem kq_sq (A B s : Nat) (σ : Sg) : kq σ (fSq A B s σ).2 := by
  unfold fSq
  split
  · exact (kq_I σ _).trans (kq_6 _ _ _ _)
  · exact ((kq_bit σ).trans (kq_I _ _)).trans (kq_6 _ _ _ _)
def ok3 (A B : Nat) (σ : Sg) : Prop := okD σ A B ∧ okR σ ∧ okO σ
theorem ok3.q {A B : Nat} {σ σ' : Sg} (h : ok3 A B σ) (e : kq σ σ') : ok3 A B σ' := ⟨h.1.kp e.1 (by decide), (e.2 h.2.1).1, h.2.2.kp e.1 (by decide)⟩
/-! passes -/
def psB (A s : Nat) (inn : Int32) : Nat → Nat → Prop
  | 0, _ => False
  | n + 1, k => (k % A = 0 ∨ (k = s ∧ ¬ inn = 0)) ∨ psB A s inn n (k + 1)
theorem psB_iff {A s : Nat} {inn : Int32} : ∀ n k, psB A s inn n k ↔ ∃ i, i < n ∧ ((k + i) % A = 0 ∨ (k + i = s ∧ ¬ inn = 0))
  | 0, k => ⟨fun h => h.elim, fun ⟨i, h, _⟩ => by omega⟩
  | n + 1, k => by
    unfold psB
    rw [psB_iff n (k + 1)]
    constructor
    · rintro (h | ⟨i, h1, h2⟩)
      · exact ⟨0, by omega, h⟩
      · refine ⟨i + 1, by omega, ?_⟩
        have e : k + (i + 1) = k + 1 + i := by omega
        rw [e]
        exact h2
    · rintro ⟨i, h1, h2⟩
      cases i with
      | zero => exact Or.inl h2
      | succ i =>
        refine Or.inr ⟨i, by omega, ?_⟩
        have e : k + (i + 1) = k + 1 + i := by omega
        rw [e] at h2
        exact h2
def bg (σ : Sg) : Sg := rV (rD σ)
def fPa (A k : Nat) (σ : Sg) : Sg := if k % A = 0 then bg σ else σ
def fPb (σ : Sg) : Sg := if σ 34 0 = nI 2 then rV (su (su (fZv σ 4) 30 0 (nI 1)) 31 0 (nI 0)) else σ
def fPd (A B k : Nat) (σ : Sg) : Sg := rD (fT (su (fPb (fPa A k σ)) 32 0 (nI 0)) A B k)
def fPk (A B k : Nat) (σ : Sg) : Sg := su (su (fPd A B k σ) 25 0 (fPd A B k σ 25 0 + nI 1)) 41 0 (fPd A B k σ 41 0 + nI 1)
def fPl (A B : Nat) : Nat → Nat → Sg → Sg
  | 0, _, σ => σ
  | n + 1, k, σ => fPl A B n (k + 1) (fPk A B k σ)

noncomputable def fPs (A B s n : Nat) (a : Int32) (σ : Sg) : Int32 × Sg :=
  if A * B - s < n then (nI 0, fW σ a) else
  @ite _ (σ 34 0 = nI 3 ∧ psB A s (σ 32 0) n s) (Classical.propDecidable _) (nI 0, fW σ a) (nI 1, fPl A B n s σ)
theorem kq_a (A k : Nat) (σ : Sg) : kq σ (fPa A k σ) := by
  unfold fPa
  split
  · exact (kq_rD _).trans (kq_rV _)
  · exact kq.refl _
theorem kq_b (σ : Sg) : kq σ (fPb σ) := by
  unfold fPb
  split
  · exact (((kq_zv σ 4).trans (kq.su (by simp) (by decide))).trans (kq.su (by simp) (by decide))).trans (kq_rV _)
  · exact kq.refl _
theorem kq_pd (A B k : Nat) (σ : Sg) : kq σ (fPd A B k σ) := ((((kq_a A k σ).trans (kq_b _)).trans (kq.su (by simp) (by decide))).trans (kq_fT _ _ _ _)).trans (kq_rD _)
theorem kq_pk (A B k : Nat) (σ : Sg) : kq σ (fPk A B k σ) := ((kq_pd A B k σ).trans (kq.su (by simp) (by decide))).trans (kq.su (by simp) (by decide))
theorem kq_pl (A B : Nat) : ∀ (n k : Nat) (σ : Sg), kq σ (fPl A B n k σ)
  | 0, _, σ => kq.refl _
  | n + 1, k, σ => (kq_pk A B k σ).trans (kq_pl A B n _ _)
theorem kq_ps (A B s n : Nat) (a : Int32) (σ : Sg) : kq σ (fPs A B s n a σ).2 := by
  unfold fPs
  split
  · exact kq_fW _ _
  · split
    · exact kq_fW _ _
    · exact kq_pl _ _ _ _ _
section PS
variable {s0 : State} {l : Launch} {hB : Mem} {m A B s n : Nat} {a : Int32} {σ : Sg} {P : Option Value → Sg → Prop}
theorem m_ps_1 (hD : okD σ A B) (hs : s + n ≤ A * B) (k1 : (σ 34 0 = nI 3 ∧ psB A s (σ 32 0) n s) → P (some (.int (nI 0))) (fW σ a)) (k2 : ¬ (σ 34 0 = nI 3 ∧ psB A s (σ 32 0) n s) → GQ s0 l M_M_passes hB m 87 [some (.ref m), some (.int (nI s)), some (.int (nI n)), some (.int a), none, none] [] σ P) : ∀ (i k : Nat), k + i = s + n → s ≤ k → (psB A s (σ 32 0) i k ↔ psB A s (σ 32 0) n s) → GQ s0 l M_M_passes hB m 32 [some (.ref m), some (.int (nI s)), some (.int (nI n)), some (.int a), some (.int (nI k)), none] [] σ P := by
  have hAB : A * B ≤ 16 := Nat.mul_le_mul hD.2.2.2.1 hD.2.2.2.2.2
  intro i
  induction i with
  | zero =>
    intro k hk hk2 hi
    refine g_aload_n d_M_passes_32 rfl rfl ?_
    refine g_get d_M_passes_33 fM_70 rfl ?_
    refine g_iconst (v := nI 3) d_M_passes_36 (by decide) ?_
    refine g_icmp_ne (tgt := 87) d_M_passes_37 (by decide) (fun c_37 => ?_) (fun c_37 => ?_)
    · skip
      refine g_forget 4 (k2 (fun h9 => ?_))
      first
        | exact c_37 h9.1
        | exact (hi.mpr h9.2).elim
    · skip
      refine g_iload d_M_passes_40 rfl ?_
      refine g_iload_n d_M_passes_42 rfl rfl ?_
      refine g_iload_n d_M_passes_43 rfl rfl ?_
      refine g_iaddN d_M_passes_44  ?_
      refine g_icmp_ge (tgt := 87) d_M_passes_45 (by decide) (fun c_45 => ?_) (fun c_45 => ?_)
      · skip
        refine g_forget 4 (k2 (fun h9 => ?_))
        first
          | exact c_37 h9.1
          | exact (hi.mpr h9.2).elim
      · exact absurd (nI_le (by omega) (by omega)) c_45
  | succ i ih =>
    intro k hk hk2 hi
    have hkA : nI k - nI k / nI A * nI A = nI (k % A) := pk_rem (by omega) (by have := hD.2.2; omega) (by have := hD.2.2; omega)
    refine g_aload_n d_M_passes_32 rfl rfl ?_
    refine g_get d_M_passes_33 fM_70 rfl ?_
    refine g_iconst (v := nI 3) d_M_passes_36 (by decide) ?_
    refine g_icmp_ne (tgt := 87) d_M_passes_37 (by decide) (fun c_37 => ?_) (fun c_37 => ?_)
    · skip
      exact g_forget 4 (k2 (fun h9 => c_37 h9.1))
    · skip
      refine g_iload d_M_passes_40 rfl ?_
      refine g_iload_n d_M_passes_42 rfl rfl ?_
      refine g_iload_n d_M_passes_43 rfl rfl ?_
      refine g_iaddN d_M_passes_44  ?_
      refine g_icmp_ge (tgt := 87) d_M_passes_45 (by decide) (fun c_45 => ?_) (fun c_45 => ?_)
      · exact absurd ((nI_leI (by omega) (by omega)).mp c_45) (by omega)
      · skip
        refine g_iload d_M_passes_48 rfl ?_
        refine g_aload_n d_M_passes_50 rfl rfl ?_
        refine g_getE d_M_passes_51 fM_35 rfl hD.1 ?_
        refine g_iremN d_M_passes_54 ⟨by omega, by have := hD.2.2; omega, by have := hD.2.2; omega⟩ ?_
        refine g_if_eq (tgt := 71) d_M_passes_55 (by decide) (fun c_55 => ?_) (fun c_55 => ?_)
        · skip
          refine g_aload_n d_M_passes_71 rfl rfl ?_
          refine g_iload_n d_M_passes_72 rfl rfl ?_
          refine g_calli (As := [_]) d_M_passes_73 lM_16 mv_M_isWrong rfl rfl rfl (Nat.le_of_ble_eq_true rfl) (by decide) (m_isWrong) ?_
          refine g_if_eq (tgt := 81) d_M_passes_76 (by decide) (fun c_76 => ?_) (fun c_76 => ?_)
          · exact absurd c_76 (by decide)
          · skip
            refine g_iconst (v := nI 0) d_M_passes_79 (by decide) ?_
            refine g_iret d_M_passes_80 rfl rfl ?_
            refine k1 ⟨c_37, hi.mp ?_⟩
            refine Or.inl ?_
            first
              | exact Or.inl ((nI_eq (by have := Nat.mod_lt k (show 0 < A by have := hD.2.2; omega); have := hD.2.2; omega) (by decide)).mp c_55)
              | exact Or.inr ⟨(nI_eq (by omega) (by omega)).mp c_61, c_68⟩
        · skip
          refine g_iload d_M_passes_58 rfl ?_
          refine g_iload_n d_M_passes_60 rfl rfl ?_
          refine g_icmp_ne (tgt := 81) d_M_passes_61 (by decide) (fun c_61 => ?_) (fun c_61 => ?_)
          · skip
            first | refine g_iinc1 d_M_passes_81 rfl ?_ | refine g_iinc d_M_passes_81 rfl ?_
            refine g_goto (tgt := 32) d_M_passes_84 (by decide) ?_
            refine ih (k + 1) (by omega) (by omega) ?_
            refine Iff.trans ?_ hi
            refine ⟨Or.inr, fun h9 => h9.elim (fun h8 => ?_) id⟩
            exfalso
            rcases h8 with h8 | h8
            · exact c_55 (by rw [h8]; rfl)
            · first
                | exact c_61 (by rw [h8.1])
                | exact h8.2 c_68
          · skip
            refine g_aload_n d_M_passes_64 rfl rfl ?_
            refine g_get d_M_passes_65 fM_132 rfl ?_
            refine g_if_eq (tgt := 81) d_M_passes_68 (by decide) (fun c_68 => ?_) (fun c_68 => ?_)
            · skip
              first | refine g_iinc1 d_M_passes_81 rfl ?_ | refine g_iinc d_M_passes_81 rfl ?_
              refine g_goto (tgt := 32) d_M_passes_84 (by decide) ?_
              refine ih (k + 1) (by omega) (by omega) ?_
              refine Iff.trans ?_ hi
              refine ⟨Or.inr, fun h9 => h9.elim (fun h8 => ?_) id⟩
              exfalso
              rcases h8 with h8 | h8
              · exact c_55 (by rw [h8]; rfl)
              · first
                  | exact c_61 (by rw [h8.1])
                  | exact h8.2 c_68
            · skip
              refine g_aload_n d_M_passes_71 rfl rfl ?_
              refine g_iload_n d_M_passes_72 rfl rfl ?_
              refine g_calli (As := [_]) d_M_passes_73 lM_16 mv_M_isWrong rfl rfl rfl (Nat.le_of_ble_eq_true rfl) (by decide) (m_isWrong) ?_
              refine g_if_eq (tgt := 81) d_M_passes_76 (by decide) (fun c_76 => ?_) (fun c_76 => ?_)
              · exact absurd c_76 (by decide)
              · skip
                refine g_iconst (v := nI 0) d_M_passes_79 (by decide) ?_
                refine g_iret d_M_passes_80 rfl rfl ?_
                refine k1 ⟨c_37, hi.mp ?_⟩
                refine Or.inl ?_
                first
                  | exact Or.inl ((nI_eq (by have := Nat.mod_lt k (show 0 < A by have := hD.2.2; omega); have := hD.2.2; omega) (by decide)).mp c_55)
                  | exact Or.inr ⟨(nI_eq (by omega) (by omega)).mp c_61, c_68⟩
theorem m_ps_z {n2 : Nat} {k : Nat} (kk : GQ s0 l M_M_passes hB m 143 [some (.ref m), some (.int (nI s)), some (.int (nI n)), some (.int a), some (.int (nI k)), some (.int (nI 4))] [] (fZv σ 4) P) : GQ s0 l M_M_passes hB m 123 [some (.ref m), some (.int (nI s)), some (.int (nI n)), some (.int a), some (.int (nI k)), some (.int (nI 0))] [] σ P := by
  have key := g_loop (s0 := s0) (l := l) (M := M_M_passes) (hB := hB) (m := m) (P := P) (pc := 123) 4 (fun i => fZv σ i) (fun i => [some (.ref m), some (.int (nI s)), some (.int (nI n)), some (.int a), some (.int (nI k)), some (.int (nI i))]) (fun i hi ih => ?_) ?_ 0 (Nat.zero_le _)
  · rw [fZv_0] at key
    exact key
  · skip
    refine g_iload d_M_passes_123 rfl ?_
    refine g_iconst (v := nI 4) d_M_passes_125 (by decide) ?_
    refine g_icmp_ge (tgt := 143) d_M_passes_126 (by decide) (fun c_126 => ?_) (fun c_126 => ?_)
    · exact absurd ((nI_leI (by omega) (by omega)).mp c_126) (by omega)
    · skip
      refine g_aload_n d_M_passes_129 rfl rfl ?_
      refine g_getA d_M_passes_130 fM_64 (by decide) ?_
      refine g_iload d_M_passes_133 rfl ?_
      refine g_iconst (v := nI 0) d_M_passes_135 (by decide) ?_
      refine g_iastore (k := 28) d_M_passes_136 rfl (by decide) (by decide) rfl (vp_in_nI (show i < 4 from hi) (by decide)) ?_
      first | refine g_iinc1 d_M_passes_137 rfl ?_ | refine g_iinc d_M_passes_137 rfl ?_
      refine g_goto (tgt := 123) d_M_passes_140 (by decide) ?_
      rw [nI_clamp (by omega), fZv_s]
      exact ih
  · skip
    refine g_iload d_M_passes_123 rfl ?_
    refine g_iconst (v := nI 4) d_M_passes_125 (by decide) ?_
    refine g_icmp_ge (tgt := 143) d_M_passes_126 (by decide) (fun c_126 => ?_) (fun c_126 => ?_)
    · skip
      exact kk
    · exact absurd (nI_le (Nat.le_refl 4) (by decide)) c_126
theorem m_ps_2 (hs : s + n ≤ A * B) (k1 : ∀ τ, τ = fPl A B n s σ → P (some (.int (nI 1))) τ) : ∀ (i k : Nat) (τ : Sg) , ok3 A B τ → k + i = s + n → fPl A B i k τ = fPl A B n s σ → GQ s0 l M_M_passes hB m 90 [some (.ref m), some (.int (nI s)), some (.int (nI n)), some (.int a), some (.int (nI k)), none] [] τ P := by
  intro i
  induction i with
  | zero =>
    intro k τ h3 hk he
    have hD := h3.1
    have hAB : A * B ≤ 16 := Nat.mul_le_mul hD.2.2.2.1 hD.2.2.2.2.2
    refine g_iload d_M_passes_90 rfl ?_
    refine g_iload_n d_M_passes_92 rfl rfl ?_
    refine g_iload_n d_M_passes_93 rfl rfl ?_
    refine g_iaddN d_M_passes_94  ?_
    refine g_icmp_ge (tgt := 198) d_M_passes_95 (by decide) (fun c_95 => ?_) (fun c_95 => ?_)
    · skip
      refine g_iconst (v := nI 1) d_M_passes_198 (by decide) ?_
      refine g_iret d_M_passes_199 rfl rfl ?_
      exact k1 _ he
    · exact absurd (nI_le (by omega) (by omega)) c_95
  | succ i ih =>
    intro k τ h3 hk he
    have hD := h3.1
    have hAB : A * B ≤ 16 := Nat.mul_le_mul hD.2.2.2.1 hD.2.2.2.2.2
    have hkA : nI k - nI k / nI A * nI A = nI (k % A) := pk_rem (by omega) (by have := hD.2.2; omega) (by have := hD.2.2; omega)
    refine g_iload d_M_passes_90 rfl ?_
    refine g_iload_n d_M_passes_92 rfl rfl ?_
    refine g_iload_n d_M_passes_93 rfl rfl ?_
    refine g_iaddN d_M_passes_94  ?_
    refine g_icmp_ge (tgt := 198) d_M_passes_95 (by decide) (fun c_95 => ?_) (fun c_95 => ?_)
    · exact absurd ((nI_leI (by omega) (by omega)).mp c_95) (by omega)
    · skip
      refine g_iload d_M_passes_98 rfl ?_
      refine g_aload_n d_M_passes_100 rfl rfl ?_
      refine g_getE d_M_passes_101 fM_35 rfl hD.1 ?_
      refine g_iremN d_M_passes_104 ⟨by omega, by have := hD.2.2; omega, by have := hD.2.2; omega⟩ ?_
      refine g_if_ne (tgt := 112) d_M_passes_105 (by decide) (fun c_105 => ?_) (fun c_105 => ?_)
      · skip
        refine g_st (τ := fPa A k τ) (by unfold fPa; first | (rw [if_pos ((nI_eq (by have := Nat.mod_lt k (show 0 < A by have := hD.2.2; omega); have := hD.2.2; omega) (by decide)).mp c_105)]; rfl) | rw [if_neg (fun h9 => c_105 (by rw [h9]; rfl))]) ?_
        refine g_aload_n d_M_passes_112 rfl rfl ?_
        refine g_get d_M_passes_113 fM_70 rfl ?_
        refine g_iconst (v := nI 2) d_M_passes_116 (by decide) ?_
        refine g_icmp_ne (tgt := 157) d_M_passes_117 (by decide) (fun c_117 => ?_) (fun c_117 => ?_)
        · skip
          have c117 := c_117
          refine g_st (τ := fPb (fPa A k τ)) (by unfold fPb; first | rw [if_pos c117] | rw [if_neg c117]) ?_
          have h4 : ok3 A B (su (fPb (fPa A k τ)) 32 0 (nI 0)) := h3.q (((kq_a A k τ).trans (kq_b _)).trans (kq.su (by simp) (by decide)))
          refine g_aload_n d_M_passes_157 rfl rfl ?_
          refine g_iconst (v := nI 0) d_M_passes_158 (by decide) ?_
          refine g_put d_M_passes_159 fM_132 rfl rfl rfl rfl ?_
          refine g_aload_n d_M_passes_162 rfl rfl ?_
          refine g_iload d_M_passes_163 rfl ?_
          refine g_callv (As := [_]) d_M_passes_165 lM_173 mv_M_foretells rfl rfl rfl (Nat.le_of_ble_eq_true rfl) (by decide) (m_foretells h4.1 (by omega)) ?_
          refine g_aload_n d_M_passes_168 rfl rfl ?_
          refine g_callv (As := []) d_M_passes_169 lM_187 mv_M_resetDcs rfl rfl rfl (Nat.le_of_ble_eq_true rfl) (by decide) (m_resetDcs) ?_
          refine g_aload_n d_M_passes_172 rfl rfl ?_
          refine g_dup d_M_passes_173 rfl ?_
          refine g_get d_M_passes_174 fM_196 rfl ?_
          refine g_iconst (v := nI 1) d_M_passes_177 (by decide) ?_
          refine g_iadd d_M_passes_178 ?_
          refine g_put d_M_passes_179 fM_196 rfl rfl rfl rfl ?_
          refine g_aload_n d_M_passes_182 rfl rfl ?_
          refine g_dup d_M_passes_183 rfl ?_
          refine g_get d_M_passes_184 fM_199 rfl ?_
          refine g_iconst (v := nI 1) d_M_passes_187 (by decide) ?_
          refine g_iadd d_M_passes_188 ?_
          refine g_put d_M_passes_189 fM_199 rfl rfl rfl rfl ?_
          first | refine g_iinc1 d_M_passes_192 rfl ?_ | refine g_iinc d_M_passes_192 rfl ?_
          refine g_goto (tgt := 90) d_M_passes_195 (by decide) ?_
          exact g_forget 5 (ih (k + 1) (fPk A B k τ) (h3.q (kq_pk A B k τ)) (by omega) he)
        · skip
          refine g_iconst (v := nI 0) d_M_passes_120 (by decide) ?_
          refine g_istore d_M_passes_121 (Nat.le_of_ble_eq_true rfl) ?_
          refine m_ps_z (n2 := 0) ?_
          refine g_aload_n d_M_passes_143 rfl rfl ?_
          refine g_iconst (v := nI 1) d_M_passes_144 (by decide) ?_
          refine g_put d_M_passes_145 fM_79 rfl rfl rfl rfl ?_
          refine g_aload_n d_M_passes_148 rfl rfl ?_
          refine g_iconst (v := nI 0) d_M_passes_149 (by decide) ?_
          refine g_put d_M_passes_150 fM_83 rfl rfl rfl rfl ?_
          refine g_aload_n d_M_passes_153 rfl rfl ?_
          refine g_callv (As := []) d_M_passes_154 lM_190 mv_M_resetVectors rfl rfl rfl (Nat.le_of_ble_eq_true rfl) (by decide) (m_resetVectors) ?_
          have c117 := c_117
          refine g_st (τ := fPb (fPa A k τ)) (by unfold fPb; first | rw [if_pos c117] | rw [if_neg c117]) ?_
          have h4 : ok3 A B (su (fPb (fPa A k τ)) 32 0 (nI 0)) := h3.q (((kq_a A k τ).trans (kq_b _)).trans (kq.su (by simp) (by decide)))
          refine g_aload_n d_M_passes_157 rfl rfl ?_
          refine g_iconst (v := nI 0) d_M_passes_158 (by decide) ?_
          refine g_put d_M_passes_159 fM_132 rfl rfl rfl rfl ?_
          refine g_aload_n d_M_passes_162 rfl rfl ?_
          refine g_iload d_M_passes_163 rfl ?_
          refine g_callv (As := [_]) d_M_passes_165 lM_173 mv_M_foretells rfl rfl rfl (Nat.le_of_ble_eq_true rfl) (by decide) (m_foretells h4.1 (by omega)) ?_
          refine g_aload_n d_M_passes_168 rfl rfl ?_
          refine g_callv (As := []) d_M_passes_169 lM_187 mv_M_resetDcs rfl rfl rfl (Nat.le_of_ble_eq_true rfl) (by decide) (m_resetDcs) ?_
          refine g_aload_n d_M_passes_172 rfl rfl ?_
          refine g_dup d_M_passes_173 rfl ?_
          refine g_get d_M_passes_174 fM_196 rfl ?_
          refine g_iconst (v := nI 1) d_M_passes_177 (by decide) ?_
          refine g_iadd d_M_passes_178 ?_
          refine g_put d_M_passes_179 fM_196 rfl rfl rfl rfl ?_
          refine g_aload_n d_M_passes_182 rfl rfl ?_
          refine g_dup d_M_passes_183 rfl ?_
          refine g_get d_M_passes_184 fM_199 rfl ?_
          refine g_iconst (v := nI 1) d_M_passes_187 (by decide) ?_
          refine g_iadd d_M_passes_188 ?_
          refine g_put d_M_passes_189 fM_199 rfl rfl rfl rfl ?_
          first | refine g_iinc1 d_M_passes_192 rfl ?_ | refine g_iinc d_M_passes_192 rfl ?_
          refine g_goto (tgt := 90) d_M_passes_195 (by decide) ?_
          exact g_forget 5 (ih (k + 1) (fPk A B k τ) (h3.q (kq_pk A B k τ)) (by omega) he)
      · skip
        refine g_aload_n d_M_passes_108 rfl rfl ?_
        refine g_callv (As := []) d_M_passes_109 lM_193 mv_M_begins rfl rfl rfl (Nat.le_of_ble_eq_true rfl) (by decide) (m_begins) ?_
        refine g_st (τ := fPa A k τ) (by unfold fPa; first | (rw [if_pos ((nI_eq (by have := Nat.mod_lt k (show 0 < A by have := hD.2.2; omega); have := hD.2.2; omega) (by decide)).mp c_105)]; rfl) | rw [if_neg (fun h9 => c_105 (by rw [h9]; rfl))]) ?_
        refine g_aload_n d_M_passes_112 rfl rfl ?_
        refine g_get d_M_passes_113 fM_70 rfl ?_
        refine g_iconst (v := nI 2) d_M_passes_116 (by decide) ?_
        refine g_icmp_ne (tgt := 157) d_M_passes_117 (by decide) (fun c_117 => ?_) (fun c_117 => ?_)
        · skip
          have c117 := c_117
          refine g_st (τ := fPb (fPa A k τ)) (by unfold fPb; first | rw [if_pos c117] | rw [if_neg c117]) ?_
          have h4 : ok3 A B (su (fPb (fPa A k τ)) 32 0 (nI 0)) := h3.q (((kq_a A k τ).trans (kq_b _)).trans (kq.su (by simp) (by decide)))
          refine g_aload_n d_M_passes_157 rfl rfl ?_
          refine g_iconst (v := nI 0) d_M_passes_158 (by decide) ?_
          refine g_put d_M_passes_159 fM_132 rfl rfl rfl rfl ?_
          refine g_aload_n d_M_passes_162 rfl rfl ?_
          refine g_iload d_M_passes_163 rfl ?_
          refine g_callv (As := [_]) d_M_passes_165 lM_173 mv_M_foretells rfl rfl rfl (Nat.le_of_ble_eq_true rfl) (by decide) (m_foretells h4.1 (by omega)) ?_
          refine g_aload_n d_M_passes_168 rfl rfl ?_
          refine g_callv (As := []) d_M_passes_169 lM_187 mv_M_resetDcs rfl rfl rfl (Nat.le_of_ble_eq_true rfl) (by decide) (m_resetDcs) ?_
          refine g_aload_n d_M_passes_172 rfl rfl ?_
          refine g_dup d_M_passes_173 rfl ?_
          refine g_get d_M_passes_174 fM_196 rfl ?_
          refine g_iconst (v := nI 1) d_M_passes_177 (by decide) ?_
          refine g_iadd d_M_passes_178 ?_
          refine g_put d_M_passes_179 fM_196 rfl rfl rfl rfl ?_
          refine g_aload_n d_M_passes_182 rfl rfl ?_
          refine g_dup d_M_passes_183 rfl ?_
          refine g_get d_M_passes_184 fM_199 rfl ?_
          refine g_iconst (v := nI 1) d_M_passes_187 (by decide) ?_
          refine g_iadd d_M_passes_188 ?_
          refine g_put d_M_passes_189 fM_199 rfl rfl rfl rfl ?_
          first | refine g_iinc1 d_M_passes_192 rfl ?_ | refine g_iinc d_M_passes_192 rfl ?_
          refine g_goto (tgt := 90) d_M_passes_195 (by decide) ?_
          exact g_forget 5 (ih (k + 1) (fPk A B k τ) (h3.q (kq_pk A B k τ)) (by omega) he)
        · skip
          refine g_iconst (v := nI 0) d_M_passes_120 (by decide) ?_
          refine g_istore d_M_passes_121 (Nat.le_of_ble_eq_true rfl) ?_
          refine m_ps_z (n2 := 0) ?_
          refine g_aload_n d_M_passes_143 rfl rfl ?_
          refine g_iconst (v := nI 1) d_M_passes_144 (by decide) ?_
          refine g_put d_M_passes_145 fM_79 rfl rfl rfl rfl ?_
          refine g_aload_n d_M_passes_148 rfl rfl ?_
          refine g_iconst (v := nI 0) d_M_passes_149 (by decide) ?_
          refine g_put d_M_passes_150 fM_83 rfl rfl rfl rfl ?_
          refine g_aload_n d_M_passes_153 rfl rfl ?_
          refine g_callv (As := []) d_M_passes_154 lM_190 mv_M_resetVectors rfl rfl rfl (Nat.le_of_ble_eq_true rfl) (by decide) (m_resetVectors) ?_
          have c117 := c_117
          refine g_st (τ := fPb (fPa A k τ)) (by unfold fPb; first | rw [if_pos c117] | rw [if_neg c117]) ?_
          have h4 : ok3 A B (su (fPb (fPa A k τ)) 32 0 (nI 0)) := h3.q (((kq_a A k τ).trans (kq_b _)).trans (kq.su (by simp) (by decide)))
          refine g_aload_n d_M_passes_157 rfl rfl ?_
          refine g_iconst (v := nI 0) d_M_passes_158 (by decide) ?_
          refine g_put d_M_passes_159 fM_132 rfl rfl rfl rfl ?_
          refine g_aload_n d_M_passes_162 rfl rfl ?_
          refine g_iload d_M_passes_163 rfl ?_
          refine g_callv (As := [_]) d_M_passes_165 lM_173 mv_M_foretells rfl rfl rfl (Nat.le_of_ble_eq_true rfl) (by decide) (m_foretells h4.1 (by omega)) ?_
          refine g_aload_n d_M_passes_168 rfl rfl ?_
          refine g_callv (As := []) d_M_passes_169 lM_187 mv_M_resetDcs rfl rfl rfl (Nat.le_of_ble_eq_true rfl) (by decide) (m_resetDcs) ?_
          refine g_aload_n d_M_passes_172 rfl rfl ?_
          refine g_dup d_M_passes_173 rfl ?_
          refine g_get d_M_passes_174 fM_196 rfl ?_
          refine g_iconst (v := nI 1) d_M_passes_177 (by decide) ?_
          refine g_iadd d_M_passes_178 ?_
          refine g_put d_M_passes_179 fM_196 rfl rfl rfl rfl ?_
          refine g_aload_n d_M_passes_182 rfl rfl ?_
          refine g_dup d_M_passes_183 rfl ?_
          refine g_get d_M_passes_184 fM_199 rfl ?_
          refine g_iconst (v := nI 1) d_M_passes_187 (by decide) ?_
          refine g_iadd d_M_passes_188 ?_
          refine g_put d_M_passes_189 fM_199 rfl rfl rfl rfl ?_
          first | refine g_iinc1 d_M_passes_192 rfl ?_ | refine g_iinc d_M_passes_192 rfl ?_
          refine g_goto (tgt := 90) d_M_passes_195 (by decide) ?_
          exact g_forget 5 (ih (k + 1) (fPk A B k τ) (h3.q (kq_pk A B k τ)) (by omega) he)
end PS
theorem m_passes {s0 : State} {l : Launch} {m : Nat} {σ : Sg} {A B s n : Nat} {a : Int32} (h3 : ok3 A B σ) (hs : s < A * B) (hn : n < 2 ^ 30) : GC s0 l M_M_passes m [.int (nI s), .int (nI n), .int a] σ (fun r σ' => r = some (.int (fPs A B s n a σ).1) ∧ σ' = (fPs A B s n a σ).2) := by
  refine g_in (by decide) rfl rfl (Nat.le_of_ble_eq_true rfl) (fun hB => ?_)
  have hD := h3.1
  have hAB : A * B ≤ 16 := Nat.mul_le_mul hD.2.2.2.1 hD.2.2.2.2.2
  refine g_iload_n d_M_passes_0 rfl rfl ?_
  refine g_aload_n d_M_passes_1 rfl rfl ?_
  refine g_getE d_M_passes_2 fM_35 rfl hD.1 ?_
  refine g_aload_n d_M_passes_5 rfl rfl ?_
  refine g_getE d_M_passes_6 fM_38 rfl hD.2.1 ?_
  refine g_imulN d_M_passes_9  ?_
  refine g_iload_n d_M_passes_10 rfl rfl ?_
  refine g_isubN d_M_passes_11 (by omega) ?_
  refine g_icmp_le (tgt := 29) d_M_passes_12 (by decide) (fun c_12 => ?_) (fun c_12 => ?_)
  · skip
    have hle : s + n ≤ A * B := by have := (nI_leI (by omega) (by omega)).mp c_12; omega
    refine g_iload_n d_M_passes_29 rfl rfl ?_
    refine g_istore d_M_passes_30 (Nat.le_of_ble_eq_true rfl) ?_
    unfold fPs
    rw [if_neg (by omega)]
    refine m_ps_1 hD hle (fun h9 => ?_) (fun h9 => ?_) n s rfl (Nat.le_refl _) Iff.rfl
    · rw [if_pos h9]
      exact ⟨rfl, rfl⟩
    · rw [if_neg h9]
      refine g_iload_n d_M_passes_87 rfl rfl ?_
      refine g_istore d_M_passes_88 (Nat.le_of_ble_eq_true rfl) ?_
      exact m_ps_2 hle (fun τ hτ => ⟨rfl, hτ⟩) n s σ h3 rfl rfl
  · skip
    refine g_aload_n d_M_passes_15 rfl rfl ?_
    refine g_iload_n d_M_passes_16 rfl rfl ?_
    refine g_calli (As := [_]) d_M_passes_17 lM_16 mv_M_isWrong rfl rfl rfl (Nat.le_of_ble_eq_true rfl) (by decide) (m_isWrong) ?_
    refine g_if_ne (tgt := 27) d_M_passes_20 (by decide) (fun c_20 => ?_) (fun c_20 => ?_)
    · skip
      refine g_iconst (v := nI 0) d_M_passes_27 (by decide) ?_
      refine g_iret d_M_passes_28 rfl rfl ?_
      unfold fPs
      rw [if_pos (Nat.lt_of_not_le (fun h9 => c_12 (nI_le h9 (by omega))))]
      exact ⟨rfl, rfl⟩
    · exact absurd c_20 (by decide)

def asE (σ : Sg) : Int32 × Sg := (if 0 ≤ fAl 8 σ 6 0 then nI 0 else nI 1, fAl 8 σ)
noncomputable def fAS (A B : Nat) : Nat → Nat → Sg → Int32 × Sg
  | 0, _, σ => asE σ
  | f + 1, s, σ => if A * B ≤ s then asE σ else
     if σ 34 0 ≤ nI 1 then (if (fSq A B s (fPa A s σ)).1 = 0 then (nI 0, (fSq A B s (fPa A s σ)).2) else fAS A B f (s + 1) (fSq A B s (fPa A s σ)).2) else
     if 0 ≤ (fU 22 0 σ).2 6 0 then (nI 0, (fU 22 0 σ).2) else
     if (fPs A B s (fU 22 0 σ).1.toNatClampNeg (σ 4 0) (fU 22 0 σ).2).1 = 0 then (nI 0, (fPs A B s (fU 22 0 σ).1.toNatClampNeg (σ 4 0) (fU 22 0 σ).2).2) else
     if s + (fU 22 0 σ).1.toNatClampNeg = A * B then asE (fPs A B s (fU 22 0 σ).1.toNatClampNeg (σ 4 0) (fU 22 0 σ).2).2 else
     if (fSq A B (s + (fU 22 0 σ).1.toNatClampNeg) (fPa A (s + (fU 22 0 σ).1.toNatClampNeg) (fPs A B s (fU 22 0 σ).1.toNatClampNeg (σ 4 0) (fU 22 0 σ).2).2)).1 = 0 then (nI 0, (fSq A B (s + (fU 22 0 σ).1.toNatClampNeg) (fPa A (s + (fU 22 0 σ).1.toNatClampNeg) (fPs A B s (fU 22 0 σ).1.toNatClampNeg (σ 4 0) (fU 22 0 σ).2).2)).2) else
     fAS A B f (s + (fU 22 0 σ).1.toNatClampNeg + 1) (fSq A B (s + (fU 22 0 σ).1.toNatClampNeg) (fPa A (s + (fU 22 0 σ).1.toNatClampNeg) (fPs A B s (fU 22 0 σ).1.toNatClampNeg (σ 4 0) (fU 22 0 σ).2).2)).2
theorem kq_asE (σ : Sg) : kq σ (asE σ).2 := kq_al 8 σ
theorem kq_as (A B : Nat) : ∀ (f s : Nat) (σ : Sg), kq σ (fAS A B f s σ).2
  | 0, _, σ => kq_asE σ
  | f + 1, s, σ => by
    unfold fAS
    split
    · exact kq_asE σ
    · split
      · split
        · exact (kq_a A s σ).trans (kq_sq A B s _)
        · exact ((kq_a A s σ).trans (kq_sq A B s _)).trans (kq_as A B f _ _)
      · split
        · exact kq_u 22 0 σ
        · have h1 := (kq_u 22 0 σ).trans (kq_ps A B s (fU 22 0 σ).1.toNatClampNeg (σ 4 0) (fU 22 0 σ).2)
          split
          · exact h1
          · split
            · exact h1.trans (kq_asE _)
            · split
              · exact (h1.trans (kq_a A _ _)).trans (kq_sq A B _ _)
              · exact ((h1.trans (kq_a A _ _)).trans (kq_sq A B _ _)).trans (kq_as A B f _ _)
theorem fPs_n {A B s n : Nat} {a : Int32} {σ : Sg} (h : ¬ (fPs A B s n a σ).1 = 0) : n ≤ A * B - s := by
  refine Nat.le_of_not_lt (fun h9 => h ?_)
  unfold fPs
  rw [if_pos h9]
  rfl
section AS
variable {s0 : State} {l : Launch} {hB : Mem} {m A B : Nat}
theorem m_as_e {σ : Sg} {y1 y2 y3 : Option Value} (h3 : ok3 A B σ) : GQ s0 l M_M_allSquares hB m 101 [some (.ref m), y1, y2, y3] [] σ (fun r σ' => r = some (.int (asE σ).1) ∧ σ' = (asE σ).2) := by
  refine g_aload_n d_M_allSquares_101 rfl rfl ?_
  refine g_callv (As := []) d_M_allSquares_102 lM_209 mv_M_align rfl rfl rfl (Nat.le_of_ble_eq_true rfl) (by decide) (m_align h3.2.1.1) ?_
  refine g_aload_n d_M_allSquares_105 rfl rfl ?_
  refine g_get d_M_allSquares_106 fM_7 rfl ?_
  refine g_if_ge (tgt := 116) d_M_allSquares_109 (by decide) (fun c_109 => ?_) (fun c_109 => ?_)
  · skip
    refine g_iconst (v := nI 0) d_M_allSquares_116 (by decide) ?_
    refine g_iret d_M_allSquares_117 rfl rfl ?_
    unfold asE
    first
      | (rw [if_pos c_109]; exact ⟨rfl, rfl⟩)
      | (rw [if_neg c_109]; exact ⟨rfl, rfl⟩)
  · skip
    refine g_iconst (v := nI 1) d_M_allSquares_112 (by decide) ?_
    refine g_goto (tgt := 117) d_M_allSquares_113 (by decide) ?_
    refine g_iret d_M_allSquares_117 rfl rfl ?_
    unfold asE
    first
      | (rw [if_pos c_109]; exact ⟨rfl, rfl⟩)
      | (rw [if_neg c_109]; exact ⟨rfl, rfl⟩)
theorem m_as_q {σ : Sg} {s : Nat} {y2 y3 : Option Value} {P : Option Value → Sg → Prop} (h3 : ok3 A B σ) (hs : s < A * B) (k0 : (fSq A B s (fPa A s σ)).1 = 0 → P (some (.int (nI 0))) (fSq A B s (fPa A s σ)).2) (k : ¬ (fSq A B s (fPa A s σ)).1 = 0 → GQ s0 l M_M_allSquares hB m 2 [some (.ref m), some (.int (nI (s + 1))), y2, y3] [] (fSq A B s (fPa A s σ)).2 P) : GQ s0 l M_M_allSquares hB m 72 [some (.ref m), some (.int (nI s)), y2, y3] [] σ P := by
  have hD := h3.1
  have hAB : A * B ≤ 16 := Nat.mul_le_mul hD.2.2.2.1 hD.2.2.2.2.2
  refine g_iload_n d_M_allSquares_72 rfl rfl ?_
  refine g_aload_n d_M_allSquares_73 rfl rfl ?_
  refine g_getE d_M_allSquares_74 fM_35 rfl hD.1 ?_
  refine g_iremN d_M_allSquares_77 ⟨by omega, by have := hD.2.2; omega, by have := hD.2.2; omega⟩ ?_
  refine g_if_ne (tgt := 85) d_M_allSquares_78 (by decide) (fun c_78 => ?_) (fun c_78 => ?_)
  · skip
    refine g_st (τ := fPa A s σ) (by unfold fPa; first | (rw [if_pos ((nI_eq (by have := Nat.mod_lt s (show 0 < A by have := hD.2.2; omega); have := hD.2.2; omega) (by decide)).mp c_78)]; rfl) | rw [if_neg (fun h9 => c_78 (by rw [h9]; rfl))]) ?_
    have h4 : ok3 A B (fPa A s σ) := h3.q (kq_a A s σ)
    refine g_aload_n d_M_allSquares_85 rfl rfl ?_
    refine g_iload_n d_M_allSquares_86 rfl rfl ?_
    refine g_calli (As := [_]) d_M_allSquares_87 lM_206 mv_M_square rfl rfl rfl (Nat.le_of_ble_eq_true rfl) (by decide) (m_square h4.1 h4.2.1 h4.2.2 hs) ?_
    refine g_if_ne (tgt := 95) d_M_allSquares_90 (by decide) (fun c_90 => ?_) (fun c_90 => ?_)
    · skip
      first | refine g_iinc1 d_M_allSquares_95 rfl ?_ | refine g_iinc d_M_allSquares_95 rfl ?_
      refine g_goto (tgt := 2) d_M_allSquares_98 (by decide) ?_
      exact k c_90
    · skip
      refine g_iconst (v := nI 0) d_M_allSquares_93 (by decide) ?_
      refine g_iret d_M_allSquares_94 rfl rfl ?_
      exact k0 c_90
  · skip
    refine g_aload_n d_M_allSquares_81 rfl rfl ?_
    refine g_callv (As := []) d_M_allSquares_82 lM_193 mv_M_begins rfl rfl rfl (Nat.le_of_ble_eq_true rfl) (by decide) (m_begins) ?_
    refine g_st (τ := fPa A s σ) (by unfold fPa; first | (rw [if_pos ((nI_eq (by have := Nat.mod_lt s (show 0 < A by have := hD.2.2; omega); have := hD.2.2; omega) (by decide)).mp c_78)]; rfl) | rw [if_neg (fun h9 => c_78 (by rw [h9]; rfl))]) ?_
    have h4 : ok3 A B (fPa A s σ) := h3.q (kq_a A s σ)
    refine g_aload_n d_M_allSquares_85 rfl rfl ?_
    refine g_iload_n d_M_allSquares_86 rfl rfl ?_
    refine g_calli (As := [_]) d_M_allSquares_87 lM_206 mv_M_square rfl rfl rfl (Nat.le_of_ble_eq_true rfl) (by decide) (m_square h4.1 h4.2.1 h4.2.2 hs) ?_
    refine g_if_ne (tgt := 95) d_M_allSquares_90 (by decide) (fun c_90 => ?_) (fun c_90 => ?_)
    · skip
      first | refine g_iinc1 d_M_allSquares_95 rfl ?_ | refine g_iinc d_M_allSquares_95 rfl ?_
      refine g_goto (tgt := 2) d_M_allSquares_98 (by decide) ?_
      exact k c_90
    · skip
      refine g_iconst (v := nI 0) d_M_allSquares_93 (by decide) ?_
      refine g_iret d_M_allSquares_94 rfl rfl ?_
      exact k0 c_90
theorem m_as_l : ∀ (f s : Nat) (y2 y3 : Option Value) (σ : Sg), ok3 A B σ → A * B ≤ s + f → s ≤ A * B → GQ s0 l M_M_allSquares hB m 2 [some (.ref m), some (.int (nI s)), y2, y3] [] σ (fun r σ' => r = some (.int (fAS A B f s σ).1) ∧ σ' = (fAS A B f s σ).2) := by
  intro f
  induction f with
  | zero =>
    intro s y2 y3 σ h3 hf hs
    have hD := h3.1
    have hAB : A * B ≤ 16 := Nat.mul_le_mul hD.2.2.2.1 hD.2.2.2.2.2
    unfold fAS
    refine g_iload_n d_M_allSquares_2 rfl rfl ?_
    refine g_aload_n d_M_allSquares_3 rfl rfl ?_
    refine g_getE d_M_allSquares_4 fM_35 rfl hD.1 ?_
    refine g_aload_n d_M_allSquares_7 rfl rfl ?_
    refine g_getE d_M_allSquares_8 fM_38 rfl hD.2.1 ?_
    refine g_imulN d_M_allSquares_11  ?_
    refine g_icmp_ge (tgt := 101) d_M_allSquares_12 (by decide) (fun c_12 => ?_) (fun c_12 => ?_)
    · skip
      exact m_as_e h3
    · exact absurd (nI_le (by omega) (by omega)) c_12
  | succ f ih =>
    intro s y2 y3 σ h3 hf hs
    have hD := h3.1
    have hAB : A * B ≤ 16 := Nat.mul_le_mul hD.2.2.2.1 hD.2.2.2.2.2
    unfold fAS
    refine g_iload_n d_M_allSquares_2 rfl rfl ?_
    refine g_aload_n d_M_allSquares_3 rfl rfl ?_
    refine g_getE d_M_allSquares_4 fM_35 rfl hD.1 ?_
    refine g_aload_n d_M_allSquares_7 rfl rfl ?_
    refine g_getE d_M_allSquares_8 fM_38 rfl hD.2.1 ?_
    refine g_imulN d_M_allSquares_11  ?_
    refine g_icmp_ge (tgt := 101) d_M_allSquares_12 (by decide) (fun c_12 => ?_) (fun c_12 => ?_)
    · skip
      first
        | (rw [if_pos ((nI_leI (by omega) (by omega)).mp c_12)]; exact m_as_e h3)
        | (rw [if_pos ((nI_eq (by omega) (by omega)).mp c_66)]; exact m_as_e h5)
    · skip
      have hlt : ¬ A * B ≤ s := fun h9 => c_12 (nI_le h9 (by omega))
      rw [if_neg hlt]
      refine g_aload_n d_M_allSquares_15 rfl rfl ?_
      refine g_get d_M_allSquares_16 fM_70 rfl ?_
      refine g_iconst (v := nI 1) d_M_allSquares_19 (by decide) ?_
      refine g_icmp_le (tgt := 72) d_M_allSquares_20 (by decide) (fun c_20 => ?_) (fun c_20 => ?_)
      · skip
        first
          | (rw [if_pos c_20]
             refine m_as_q h3 (by omega) (fun h9 => ?_) (fun h9 => ?_)
             · rw [if_pos h9]; exact ⟨rfl, rfl⟩
             · rw [if_neg h9]; exact ih (s + 1) _ _ _ ((h3.q (kq_a A s σ)).q (kq_sq A B s _)) (by omega) (by omega))
          | (have hne : ¬ s + n = A * B := fun h9 => c_66 (by rw [h9])
             rw [if_neg hne]
             refine m_as_q h5 (by omega) (fun h9 => ?_) (fun h9 => ?_)
             · rw [if_pos h9]; exact ⟨rfl, rfl⟩
             · rw [if_neg h9]; exact ih (s + n + 1) _ _ _ ((h5.q (kq_a A _ _)).q (kq_sq A B _ _)) (by omega) (by omega))
      · skip
        rw [if_neg c_20]
        refine g_aload_n d_M_allSquares_23 rfl rfl ?_
        refine g_get d_M_allSquares_24 fM_10 rfl ?_
        refine g_istore_n d_M_allSquares_27 rfl (Nat.le_of_ble_eq_true rfl) ?_
        refine g_aload_n d_M_allSquares_28 rfl rfl ?_
        refine g_calli (As := []) d_M_allSquares_29 lM_32 mv_M_readU rfl rfl rfl (Nat.le_of_ble_eq_true rfl) (by decide) (m_readU h3.2.1.1) ?_
        refine g_istore_n d_M_allSquares_32 rfl (Nat.le_of_ble_eq_true rfl) ?_
        refine g_aload_n d_M_allSquares_33 rfl rfl ?_
        refine g_get d_M_allSquares_34 fM_7 rfl ?_
        refine g_if_ge (tgt := 50) d_M_allSquares_37 (by decide) (fun c_37 => ?_) (fun c_37 => ?_)
        · skip
          refine g_iconst (v := nI 0) d_M_allSquares_50 (by decide) ?_
          refine g_iret d_M_allSquares_51 rfl rfl ?_
          first
            | (rw [if_pos c_37]; exact ⟨rfl, rfl⟩)
            | (rw [if_pos c_47]; exact ⟨rfl, rfl⟩)
        · skip
          rw [if_neg c_37]
          obtain ⟨n, n1, n2⟩ := u_rng 22 0 (by decide) h3.2.1
          have n3 : (fU 22 0 σ).1.toNatClampNeg = n := by rw [n1]; exact nI_clamp (by omega)
          rw [n3, n1]
          refine g_aload_n d_M_allSquares_40 rfl rfl ?_
          refine g_iload_n d_M_allSquares_41 rfl rfl ?_
          refine g_iload_n d_M_allSquares_42 rfl rfl ?_
          refine g_iload_n d_M_allSquares_43 rfl rfl ?_
          refine g_calli (As := [_, _, _]) d_M_allSquares_44 lM_202 mv_M_passes rfl rfl rfl (Nat.le_of_ble_eq_true rfl) (by decide) (m_passes (s := s) (n := n) (h3.q (kq_u 22 0 σ)) (by omega) (by omega)) ?_
          refine g_if_ne (tgt := 52) d_M_allSquares_47 (by decide) (fun c_47 => ?_) (fun c_47 => ?_)
          · skip
            rw [if_neg c_47]
            have h5 := (h3.q (kq_u 22 0 σ)).q (kq_ps A B s n (σ 4 0) (fU 22 0 σ).2)
            have hn := fPs_n c_47
            refine g_iload_n d_M_allSquares_52 rfl rfl ?_
            refine g_iload_n d_M_allSquares_53 rfl rfl ?_
            refine g_iaddN d_M_allSquares_54  ?_
            refine g_istore_n d_M_allSquares_55 rfl (Nat.le_of_ble_eq_true rfl) ?_
            refine g_iload_n d_M_allSquares_56 rfl rfl ?_
            refine g_aload_n d_M_allSquares_57 rfl rfl ?_
            refine g_getE d_M_allSquares_58 fM_35 rfl h5.1.1 ?_
            refine g_aload_n d_M_allSquares_61 rfl rfl ?_
            refine g_getE d_M_allSquares_62 fM_38 rfl h5.1.2.1 ?_
            refine g_imulN d_M_allSquares_65  ?_
            refine g_icmp_ne (tgt := 72) d_M_allSquares_66 (by decide) (fun c_66 => ?_) (fun c_66 => ?_)
            · skip
              first
                | (rw [if_pos c_20]
                   refine m_as_q h3 (by omega) (fun h9 => ?_) (fun h9 => ?_)
                   · rw [if_pos h9]; exact ⟨rfl, rfl⟩
                   · rw [if_neg h9]; exact ih (s + 1) _ _ _ ((h3.q (kq_a A s σ)).q (kq_sq A B s _)) (by omega) (by omega))
                | (have hne : ¬ s + n = A * B := fun h9 => c_66 (by rw [h9])
                   rw [if_neg hne]
                   refine m_as_q h5 (by omega) (fun h9 => ?_) (fun h9 => ?_)
                   · rw [if_pos h9]; exact ⟨rfl, rfl⟩
                   · rw [if_neg h9]; exact ih (s + n + 1) _ _ _ ((h5.q (kq_a A _ _)).q (kq_sq A B _ _)) (by omega) (by omega))
            · skip
              refine g_goto (tgt := 101) d_M_allSquares_69 (by decide) ?_
              first
                | (rw [if_pos ((nI_leI (by omega) (by omega)).mp c_12)]; exact m_as_e h3)
                | (rw [if_pos ((nI_eq (by omega) (by omega)).mp c_66)]; exact m_as_e h5)
          · skip
            refine g_iconst (v := nI 0) d_M_allSquares_50 (by decide) ?_
            refine g_iret d_M_allSquares_51 rfl rfl ?_
            first
              | (rw [if_pos c_37]; exact ⟨rfl, rfl⟩)
              | (rw [if_pos c_47]; exact ⟨rfl, rfl⟩)
end AS
theorem m_allSquares {s0 : State} {l : Launch} {m : Nat} {σ : Sg} {A B : Nat} (h3 : ok3 A B σ) : GC s0 l M_M_allSquares m [] σ (fun r σ' => r = some (.int (fAS A B 16 0 σ).1) ∧ σ' = (fAS A B 16 0 σ).2) := by
  refine g_in (by decide) rfl rfl (Nat.le_of_ble_eq_true rfl) (fun hB => ?_)
  refine g_iconst (v := nI 0) d_M_allSquares_0 (by decide) ?_
  refine g_istore_n d_M_allSquares_1 rfl (Nat.le_of_ble_eq_true rfl) ?_
  exact m_as_l 16 0 none none σ h3 (by have := Nat.mul_le_mul h3.1.2.2.2.1 h3.1.2.2.2.2.2; omega) (Nat.zero_le _)

