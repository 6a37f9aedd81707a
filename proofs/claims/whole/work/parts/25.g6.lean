/-! ===== sums ===== -/
def sg (b : Int32) (g : Nat → Int32) : Nat → Int32
  | 0 => b
  | n + 1 => sg b g n + g n
def fAll (σ : Sg) : Int32 := sg (nI 0) (fun k => σ 38 k) 64
def facP (σ : Sg) (j : Nat) : Int32 := if j = 63 then (if rm2 (fAll σ) = 0 then σ 38 63 ^^^ nI 1 else σ 38 63) else σ 38 j
def rowV (σ : Sg) (j : Nat) : Int32 := sg (nI 1024) (fun u => facP σ (8 * (j / 8) + u) * fWv u (j % 8)) 8 >>> (nI 11 &&& 31)
def sumV (σ : Sg) (x y : Nat) : Int32 := sg (nI 16384) (fun v => rowV σ (8 * v + x) * fWv v y) 8
abbrev inR (A B p x0 y0 j : Nat) : Prop := plN A B j = p ∧ (x0 ≤ xN A B j ∧ xN A B j < x0 + 8) ∧ (y0 ≤ yN A B j ∧ yN A B j < y0 + 8)
def picW (σ : Sg) (A B x0 y0 j : Nat) : Int32 := hel ((if σ 32 0 = 0 then σ 9 j else nI 0) + sumV σ (xN A B j - x0) (yN A B j - y0) >>> (nI 15 &&& 31)) (nI 0) (nI 255)
def fS1 (σ : Sg) : Sg := sa σ 38 (facP σ)
def fS2 (σ : Sg) (t : Nat) : Sg := sa (fS1 σ) 39 (fun j => if j < t then rowV σ j else σ 39 j)
abbrev ltR (A B y0 x0 y x j : Nat) : Prop := yN A B j < y0 + y ∨ (yN A B j = y0 + y ∧ xN A B j < x0 + x)
def fS3 (σ : Sg) (A B p x0 y0 y x : Nat) : Sg := sa (fS2 σ 64) 9 (fun j => if inR A B p x0 y0 j ∧ ltR A B y0 x0 y x j then picW σ A B x0 y0 j else σ 9 j)
def fSm (σ : Sg) (A B p x0 y0 : Nat) : Sg := sa (fS2 σ 64) 9 (fun j => if inR A B p x0 y0 j then picW σ A B x0 y0 j else σ 9 j)
theorem fS2_0 {σ : Sg} : fS2 σ 0 = fS1 σ := sa_self (fun j => by rw [if_neg (by omega)]; exact (sa_k (by decide)).symm)
theorem fS2_s {σ : Sg} {t : Nat} : su (fS2 σ t) 39 t (rowV σ t) = fS2 σ (t + 1) := su_sa (fun j => by
  by_cases e : j = t
  · rw [if_pos (by omega), if_pos e, e]
  · rw [if_neg e]
    by_cases e2 : j < t
    · rw [if_pos e2, if_pos (by omega)]
    · rw [if_neg e2, if_neg (by omega)])
theorem fS3_c {σ : Sg} {A B p x0 y0 y x y' x' : Nat} (h : ∀ j, inR A B p x0 y0 j → (ltR A B y0 x0 y x j ↔ ltR A B y0 x0 y' x' j)) : fS3 σ A B p x0 y0 y x = fS3 σ A B p x0 y0 y' x' := by
  refine sa_ext (fun j => ?_)
  by_cases e : inR A B p x0 y0 j ∧ ltR A B y0 x0 y x j
  · rw [if_pos e, if_pos ⟨e.1, (h j e.1).mp e.2⟩]
  · rw [if_neg e, if_neg (fun z => e ⟨z.1, (h j z.1).mpr z.2⟩)]
theorem fS3_8 {σ : Sg} {A B p x0 y0 y : Nat} : fS3 σ A B p x0 y0 y 8 = fS3 σ A B p x0 y0 (y + 1) 0 := fS3_c (fun j hj => by unfold ltR; have := hj.2; omega)
theorem fS3_0 {σ : Sg} {A B p x0 y0 : Nat} : fS3 σ A B p x0 y0 0 0 = fS2 σ 64 := sa_self (fun j => by
  rw [if_neg]
  · exact (show fS2 σ 64 9 j = σ 9 j from rfl).symm
  · rintro ⟨a, b⟩
    unfold ltR at b
    have := a.2
    omega)
theorem fS3_e {σ : Sg} {A B p x0 y0 : Nat} : fS3 σ A B p x0 y0 8 0 = fSm σ A B p x0 y0 := sa_ext (fun j => by
  by_cases e : inR A B p x0 y0 j
  · rw [if_pos ⟨e, Or.inl (by have := e.2; omega)⟩, if_pos e]
  · rw [if_neg (fun z => e z.1), if_neg e])
theorem fS3_s {σ : Sg} {A B p x0 y0 y x : Nat} (hA : 1 ≤ A ∧ A ≤ 4) (hB : 1 ≤ B ∧ B ≤ 4) (hp : p < 3) (hx0 : x0 + 8 ≤ wdN A p) (hy0 : y0 + 8 ≤ wdN B p) (hx : x < 8) (hy : y < 8) : su (fS3 σ A B p x0 y0 y x) 9 (atN A B p + wdN A p * (y0 + y) + x0 + x) (hel ((if σ 32 0 = 0 then σ 9 (atN A B p + wdN A p * (y0 + y) + x0 + x) else nI 0) + sumV σ x y >>> (nI 15 &&& 31)) (nI 0) (nI 255)) = fS3 σ A B p x0 y0 y (x + 1) := su_sa (fun j => by
  have e0 : atN A B p + wdN A p * (y0 + y) + x0 + x = atN A B p + wdN A p * (y0 + y) + (x0 + x) := by omega
  rw [e0]
  have hi := enc_iff (j := j) hA hB hp (show x0 + x < wdN A p by omega) (show y0 + y < wdN B p by omega)
  by_cases e : j = atN A B p + wdN A p * (y0 + y) + (x0 + x)
  · obtain ⟨a, b, c⟩ := hi.mp e
    rw [if_pos e, if_pos ⟨⟨a, by omega, by omega⟩, Or.inr ⟨b, by omega⟩⟩, ← e]
    unfold picW
    have e1 : xN A B j - x0 = x := by omega
    have e2 : yN A B j - y0 = y := by omega
    rw [e1, e2]
  · rw [if_neg e]
    have hne : ¬ (plN A B j = p ∧ yN A B j = y0 + y ∧ xN A B j = x0 + x) := fun z => e (hi.mpr z)
    by_cases e4 : inR A B p x0 y0 j ∧ ltR A B y0 x0 y x j
    · rw [if_pos e4, if_pos ⟨e4.1, by have := e4.2; unfold ltR at this ⊢; omega⟩]
    · rw [if_neg e4, if_neg (fun z => e4 ⟨z.1, by have h1 := z.2; have h2 := z.1.1; unfold ltR at h1 ⊢; omega⟩)])
theorem okD.s1 {σ : Sg} {A B : Nat} (h : okD σ A B) : okD (fS1 σ) A B := h.eq (eqOn.sa (by decide))
theorem okD.s2 {σ : Sg} {A B t : Nat} (h : okD σ A B) : okD (fS2 σ t) A B := h.s1.eq (eqOn.sa (by decide))
theorem okD.s3 {σ : Sg} {A B p x0 y0 y x : Nat} (h : okD σ A B) : okD (fS3 σ A B p x0 y0 y x) A B := h.s2.eq (eqOn.sa (by decide))
theorem g_st {s0 : State} {l : Launch} {M : MI} {hB : Mem} {m pc : Nat} {L : List (Option Value)} {st : List Value} {σ τ : Sg} {P : Option Value → Sg → Prop} (e : σ = τ) (k : GQ s0 l M hB m pc L st τ P) : GQ s0 l M hB m pc L st σ P := e ▸ k
section SM
variable {s0 : State} {l : Launch} {hB : Mem} {m A B p x0 y0 : Nat} {σ : Sg} {P : Option Value → Sg → Prop}
theorem m_sm_1  (k : GQ s0 l M_M_sums hB m 31 [some (.ref m), some (.int (nI p)), some (.int (nI x0)), some (.int (nI y0)), some (.int (fAll σ)), some (.int (nI 64)), none, none, none] [] σ P) : GQ s0 l M_M_sums hB m 6 [some (.ref m), some (.int (nI p)), some (.int (nI x0)), some (.int (nI y0)), some (.int (nI 0)), some (.int (nI 0)), none, none, none] [] σ P := by
  have key := g_loop (s0 := s0) (l := l) (M := M_M_sums) (hB := hB) (m := m) (P := P) (pc := 6) 64 (fun i => σ) (fun i => [some (.ref m), some (.int (nI p)), some (.int (nI x0)), some (.int (nI y0)), some (.int (sg (nI 0) (fun k => σ 38 k) i)), some (.int (nI i)), none, none, none]) (fun i hi ih => ?_) ?_ 0 (Nat.zero_le _)
  · exact key
  · skip
    refine g_iload d_M_sums_6 rfl ?_
    refine g_bipush (v := nI 64) d_M_sums_8 (by decide) ?_
    refine g_icmp_ge (tgt := 31) d_M_sums_10 (by decide) (fun c_10 => ?_) (fun c_10 => ?_)
    · exact absurd ((nI_leI (by omega) (by omega)).mp c_10) (by omega)
    · skip
      refine g_iload d_M_sums_13 rfl ?_
      refine g_aload_n d_M_sums_15 rfl rfl ?_
      refine g_getA d_M_sums_16 fM_120 (by decide) ?_
      refine g_iload d_M_sums_19 rfl ?_
      refine g_iaload (k := 38) d_M_sums_21 rfl (by decide) (by decide) rfl (vp_in_nI (show i < 64 from hi) (by decide)) ?_
      refine g_iadd d_M_sums_22 ?_
      refine g_istore d_M_sums_23 (Nat.le_of_ble_eq_true rfl) ?_
      first | refine g_iinc1 d_M_sums_25 rfl ?_ | refine g_iinc d_M_sums_25 rfl ?_
      refine g_goto (tgt := 6) d_M_sums_28 (by decide) ?_
      rw [nI_clamp (by omega)]
      exact ih
  · skip
    refine g_iload d_M_sums_6 rfl ?_
    refine g_bipush (v := nI 64) d_M_sums_8 (by decide) ?_
    refine g_icmp_ge (tgt := 31) d_M_sums_10 (by decide) (fun c_10 => ?_) (fun c_10 => ?_)
    · skip
      exact k
    · exact absurd (nI_le (Nat.le_refl 64) (by decide)) c_10
theorem m_sm_u {v x t : Nat} (hv : v < 8) (hx : x < 8) (k : GQ s0 l M_M_sums hB m 116 [some (.ref m), some (.int (nI p)), some (.int (nI x0)), some (.int (nI y0)), none, some (.int (nI v)), some (.int (nI x)), some (.int (sg (nI 1024) (fun u => facP σ (8 * v + u) * fWv u x) 8)), some (.int (nI 8))] [] (fS2 σ t) P) : GQ s0 l M_M_sums hB m 77 [some (.ref m), some (.int (nI p)), some (.int (nI x0)), some (.int (nI y0)), none, some (.int (nI v)), some (.int (nI x)), some (.int (nI 1024)), some (.int (nI 0))] [] (fS2 σ t) P := by
  have key := g_loop (s0 := s0) (l := l) (M := M_M_sums) (hB := hB) (m := m) (P := P) (pc := 77) 8 (fun i => fS2 σ t) (fun i => [some (.ref m), some (.int (nI p)), some (.int (nI x0)), some (.int (nI y0)), none, some (.int (nI v)), some (.int (nI x)), some (.int (sg (nI 1024) (fun u => facP σ (8 * v + u) * fWv u x) i)), some (.int (nI i))]) (fun i hi ih => ?_) ?_ 0 (Nat.zero_le _)
  · exact key
  · skip
    refine g_iload d_M_sums_77 rfl ?_
    refine g_bipush (v := nI 8) d_M_sums_79 (by decide) ?_
    refine g_icmp_ge (tgt := 116) d_M_sums_81 (by decide) (fun c_81 => ?_) (fun c_81 => ?_)
    · exact absurd ((nI_leI (by omega) (by omega)).mp c_81) (by omega)
    · skip
      refine g_iload d_M_sums_84 rfl ?_
      refine g_aload_n d_M_sums_86 rfl rfl ?_
      refine g_getA d_M_sums_87 fM_120 (by decide) ?_
      refine g_bipush (v := nI 8) d_M_sums_90 (by decide) ?_
      refine g_iload d_M_sums_92 rfl ?_
      refine g_imulN d_M_sums_94  ?_
      refine g_iload d_M_sums_95 rfl ?_
      refine g_iaddN d_M_sums_97  ?_
      refine g_iaload (k := 38) d_M_sums_98 rfl (by decide) (by decide) rfl (vp_in_nI (by show 8 * v + i < 64; omega) (by decide)) ?_
      refine g_iload d_M_sums_99 rfl ?_
      refine g_iload d_M_sums_101 rfl ?_
      refine g_calls (As := [_, _]) d_M_sums_103 lM_141 ms_M_wave rfl rfl rfl (Nat.le_of_ble_eq_true rfl) (by decide) (fun h hW => m_wave (by omega) (by omega) hW) ?_
      refine g_imul d_M_sums_106 ?_
      refine g_iadd d_M_sums_107 ?_
      refine g_istore d_M_sums_108 (Nat.le_of_ble_eq_true rfl) ?_
      first | refine g_iinc1 d_M_sums_110 rfl ?_ | refine g_iinc d_M_sums_110 rfl ?_
      refine g_goto (tgt := 77) d_M_sums_113 (by decide) ?_
      rw [nI_clamp (by omega)]
      have e1 : fS2 σ t 38 (8 * v + i) = facP σ (8 * v + i) := (sa_k (by decide)).trans (sa_at _ _ _ _)
      rw [e1]
      exact ih
  · skip
    refine g_iload d_M_sums_77 rfl ?_
    refine g_bipush (v := nI 8) d_M_sums_79 (by decide) ?_
    refine g_icmp_ge (tgt := 116) d_M_sums_81 (by decide) (fun c_81 => ?_) (fun c_81 => ?_)
    · skip
      exact k
    · exact absurd (nI_le (Nat.le_refl 8) (by decide)) c_81
theorem m_sm_x {v : Nat} (hv : v < 8) (k : GQ s0 l M_M_sums hB m 140 [some (.ref m), some (.int (nI p)), some (.int (nI x0)), some (.int (nI y0)), none, some (.int (nI v)), some (.int (nI 8)), none, none] [] (fS2 σ (8 * v + 8)) P) : GQ s0 l M_M_sums hB m 62 [some (.ref m), some (.int (nI p)), some (.int (nI x0)), some (.int (nI y0)), none, some (.int (nI v)), some (.int (nI 0)), none, none] [] (fS2 σ (8 * v + 0)) P := by
  have key := g_loop (s0 := s0) (l := l) (M := M_M_sums) (hB := hB) (m := m) (P := P) (pc := 62) 8 (fun i => fS2 σ (8 * v + i)) (fun i => [some (.ref m), some (.int (nI p)), some (.int (nI x0)), some (.int (nI y0)), none, some (.int (nI v)), some (.int (nI i)), none, none]) (fun i hi ih => ?_) ?_ 0 (Nat.zero_le _)
  · exact key
  · skip
    refine g_iload d_M_sums_62 rfl ?_
    refine g_bipush (v := nI 8) d_M_sums_64 (by decide) ?_
    refine g_icmp_ge (tgt := 140) d_M_sums_66 (by decide) (fun c_66 => ?_) (fun c_66 => ?_)
    · exact absurd ((nI_leI (by omega) (by omega)).mp c_66) (by omega)
    · skip
      refine g_sipush (v := nI 1024) d_M_sums_69 (by decide) ?_
      refine g_istore d_M_sums_72 (Nat.le_of_ble_eq_true rfl) ?_
      refine g_iconst (v := nI 0) d_M_sums_74 (by decide) ?_
      refine g_istore d_M_sums_75 (Nat.le_of_ble_eq_true rfl) ?_
      refine m_sm_u hv hi ?_
      refine g_aload_n d_M_sums_116 rfl rfl ?_
      refine g_getA d_M_sums_117 fM_123 (by decide) ?_
      refine g_bipush (v := nI 8) d_M_sums_120 (by decide) ?_
      refine g_iload d_M_sums_122 rfl ?_
      refine g_imulN d_M_sums_124  ?_
      refine g_iload d_M_sums_125 rfl ?_
      refine g_iaddN d_M_sums_127  ?_
      refine g_iload d_M_sums_128 rfl ?_
      refine g_bipush (v := nI 11) d_M_sums_130 (by decide) ?_
      refine g_ishr d_M_sums_132 ?_
      refine g_iastore (k := 39) d_M_sums_133 rfl (by decide) (by decide) rfl (vp_in_nI (by show 8 * v + i < 64; omega) (by decide)) ?_
      first | refine g_iinc1 d_M_sums_134 rfl ?_ | refine g_iinc d_M_sums_134 rfl ?_
      refine g_goto (tgt := 62) d_M_sums_137 (by decide) ?_
      rw [nI_clamp (by omega)]
      have e1 : sg (nI 1024) (fun u => facP σ (8 * v + u) * fWv u i) 8 >>> (nI 11 &&& 31) = rowV σ (8 * v + i) := by
        unfold rowV
        have d1 : (8 * v + i) / 8 = v := by omega
        have d2 : (8 * v + i) % 8 = i := by omega
        rw [d1, d2]
      rw [e1, fS2_s]
      exact g_forget 7 (g_forget 8 ih)
  · skip
    refine g_iload d_M_sums_62 rfl ?_
    refine g_bipush (v := nI 8) d_M_sums_64 (by decide) ?_
    refine g_icmp_ge (tgt := 140) d_M_sums_66 (by decide) (fun c_66 => ?_) (fun c_66 => ?_)
    · skip
      exact k
    · exact absurd (nI_le (Nat.le_refl 8) (by decide)) c_66
theorem m_sm_v  (k : GQ s0 l M_M_sums hB m 146 [some (.ref m), some (.int (nI p)), some (.int (nI x0)), some (.int (nI y0)), none, some (.int (nI 8)), none, none, none] [] (fS2 σ 64) P) : GQ s0 l M_M_sums hB m 52 [some (.ref m), some (.int (nI p)), some (.int (nI x0)), some (.int (nI y0)), none, some (.int (nI 0)), none, none, none] [] (fS1 σ) P := by
  have key := g_loop (s0 := s0) (l := l) (M := M_M_sums) (hB := hB) (m := m) (P := P) (pc := 52) 8 (fun i => fS2 σ (8 * i)) (fun i => [some (.ref m), some (.int (nI p)), some (.int (nI x0)), some (.int (nI y0)), none, some (.int (nI i)), none, none, none]) (fun i hi ih => ?_) ?_ 0 (Nat.zero_le _)
  · rw [show fS2 σ (8 * 0) = fS1 σ from fS2_0] at key; exact key
  · skip
    refine g_iload d_M_sums_52 rfl ?_
    refine g_bipush (v := nI 8) d_M_sums_54 (by decide) ?_
    refine g_icmp_ge (tgt := 146) d_M_sums_56 (by decide) (fun c_56 => ?_) (fun c_56 => ?_)
    · exact absurd ((nI_leI (by omega) (by omega)).mp c_56) (by omega)
    · skip
      refine g_iconst (v := nI 0) d_M_sums_59 (by decide) ?_
      refine g_istore d_M_sums_60 (Nat.le_of_ble_eq_true rfl) ?_
      refine m_sm_x hi ?_
      first | refine g_iinc1 d_M_sums_140 rfl ?_ | refine g_iinc d_M_sums_140 rfl ?_
      refine g_goto (tgt := 52) d_M_sums_143 (by decide) ?_
      exact g_forget 6 ih
  · skip
    refine g_iload d_M_sums_52 rfl ?_
    refine g_bipush (v := nI 8) d_M_sums_54 (by decide) ?_
    refine g_icmp_ge (tgt := 146) d_M_sums_56 (by decide) (fun c_56 => ?_) (fun c_56 => ?_)
    · skip
      exact k
    · exact absurd (nI_le (Nat.le_refl 8) (by decide)) c_56
theorem m_sm_w {y x : Nat} (hy : y < 8) (hx : x < 8) (k : GQ s0 l M_M_sums hB m 213 [some (.ref m), some (.int (nI p)), some (.int (nI x0)), some (.int (nI y0)), none, some (.int (nI y)), some (.int (nI x)), some (.int (sumV σ x y)), some (.int (nI 8))] [] (fS3 σ A B p x0 y0 y x) P) : GQ s0 l M_M_sums hB m 174 [some (.ref m), some (.int (nI p)), some (.int (nI x0)), some (.int (nI y0)), none, some (.int (nI y)), some (.int (nI x)), some (.int (nI 16384)), some (.int (nI 0))] [] (fS3 σ A B p x0 y0 y x) P := by
  have key := g_loop (s0 := s0) (l := l) (M := M_M_sums) (hB := hB) (m := m) (P := P) (pc := 174) 8 (fun i => fS3 σ A B p x0 y0 y x) (fun i => [some (.ref m), some (.int (nI p)), some (.int (nI x0)), some (.int (nI y0)), none, some (.int (nI y)), some (.int (nI x)), some (.int (sg (nI 16384) (fun v => rowV σ (8 * v + x) * fWv v y) i)), some (.int (nI i))]) (fun i hi ih => ?_) ?_ 0 (Nat.zero_le _)
  · exact key
  · skip
    refine g_iload d_M_sums_174 rfl ?_
    refine g_bipush (v := nI 8) d_M_sums_176 (by decide) ?_
    refine g_icmp_ge (tgt := 213) d_M_sums_178 (by decide) (fun c_178 => ?_) (fun c_178 => ?_)
    · exact absurd ((nI_leI (by omega) (by omega)).mp c_178) (by omega)
    · skip
      refine g_iload d_M_sums_181 rfl ?_
      refine g_aload_n d_M_sums_183 rfl rfl ?_
      refine g_getA d_M_sums_184 fM_123 (by decide) ?_
      refine g_bipush (v := nI 8) d_M_sums_187 (by decide) ?_
      refine g_iload d_M_sums_189 rfl ?_
      refine g_imulN d_M_sums_191  ?_
      refine g_iload d_M_sums_192 rfl ?_
      refine g_iaddN d_M_sums_194  ?_
      refine g_iaload (k := 39) d_M_sums_195 rfl (by decide) (by decide) rfl (vp_in_nI (by show 8 * i + x < 64; omega) (by decide)) ?_
      refine g_iload d_M_sums_196 rfl ?_
      refine g_iload d_M_sums_198 rfl ?_
      refine g_calls (As := [_, _]) d_M_sums_200 lM_141 ms_M_wave rfl rfl rfl (Nat.le_of_ble_eq_true rfl) (by decide) (fun h hW => m_wave (by omega) (by omega) hW) ?_
      refine g_imul d_M_sums_203 ?_
      refine g_iadd d_M_sums_204 ?_
      refine g_istore d_M_sums_205 (Nat.le_of_ble_eq_true rfl) ?_
      first | refine g_iinc1 d_M_sums_207 rfl ?_ | refine g_iinc d_M_sums_207 rfl ?_
      refine g_goto (tgt := 174) d_M_sums_210 (by decide) ?_
      rw [nI_clamp (by omega)]
      have e1 : fS3 σ A B p x0 y0 y x 39 (8 * i + x) = rowV σ (8 * i + x) := by
        show fS2 σ 64 39 (8 * i + x) = _
        rw [show fS2 σ 64 39 (8 * i + x) = if 8 * i + x < 64 then rowV σ (8 * i + x) else σ 39 (8 * i + x) from sa_at _ _ _ _, if_pos (by omega)]
      rw [e1]
      exact ih
  · skip
    refine g_iload d_M_sums_174 rfl ?_
    refine g_bipush (v := nI 8) d_M_sums_176 (by decide) ?_
    refine g_icmp_ge (tgt := 213) d_M_sums_178 (by decide) (fun c_178 => ?_) (fun c_178 => ?_)
    · skip
      exact k
    · exact absurd (nI_le (Nat.le_refl 8) (by decide)) c_178
theorem m_sm_px {y : Nat} (hD : okD σ A B) (hp : p < 3) (hx0 : x0 + 8 ≤ wdN A p) (hy0 : y0 + 8 ≤ wdN B p) (hy : y < 8) (k : GQ s0 l M_M_sums hB m 280 [some (.ref m), some (.int (nI p)), some (.int (nI x0)), some (.int (nI y0)), none, some (.int (nI y)), some (.int (nI 8)), none, none] [] (fS3 σ A B p x0 y0 (y + 1) 0) P) : GQ s0 l M_M_sums hB m 159 [some (.ref m), some (.int (nI p)), some (.int (nI x0)), some (.int (nI y0)), none, some (.int (nI y)), some (.int (nI 0)), none, none] [] (fS3 σ A B p x0 y0 y 0) P := by
  have key := g_loop (s0 := s0) (l := l) (M := M_M_sums) (hB := hB) (m := m) (P := P) (pc := 159) 8 (fun i => fS3 σ A B p x0 y0 y i) (fun i => [some (.ref m), some (.int (nI p)), some (.int (nI x0)), some (.int (nI y0)), none, some (.int (nI y)), some (.int (nI i)), none, none]) (fun i hi ih => ?_) ?_ 0 (Nat.zero_le _)
  · exact key
  · skip
    refine g_iload d_M_sums_159 rfl ?_
    refine g_bipush (v := nI 8) d_M_sums_161 (by decide) ?_
    refine g_icmp_ge (tgt := 280) d_M_sums_163 (by decide) (fun c_163 => ?_) (fun c_163 => ?_)
    · exact absurd ((nI_leI (by omega) (by omega)).mp c_163) (by omega)
    · skip
      refine g_sipush (v := nI 16384) d_M_sums_166 (by decide) ?_
      refine g_istore d_M_sums_169 (Nat.le_of_ble_eq_true rfl) ?_
      refine g_iconst (v := nI 0) d_M_sums_171 (by decide) ?_
      refine g_istore d_M_sums_172 (Nat.le_of_ble_eq_true rfl) ?_
      refine m_sm_w hy hi ?_
      refine g_aload_n d_M_sums_213 rfl rfl ?_
      refine g_iload_n d_M_sums_214 rfl rfl ?_
      refine g_calli (As := [_]) d_M_sums_215 lM_57 mv_M_planeAt rfl rfl rfl (Nat.le_of_ble_eq_true rfl) (by decide) (m_planeAt) ?_
      refine g_aload_n d_M_sums_218 rfl rfl ?_
      refine g_iload_n d_M_sums_219 rfl rfl ?_
      refine g_calli (As := [_]) d_M_sums_220 lM_51 mv_M_planeWidth rfl rfl rfl (Nat.le_of_ble_eq_true rfl) (by decide) (m_planeWidth) ?_
      rw [pA_n hD.s3 (by omega), pW_n hD.s3 (by omega)]
      refine g_iload_n d_M_sums_223 rfl rfl ?_
      refine g_iload d_M_sums_224 rfl ?_
      refine g_iaddN d_M_sums_226  ?_
      refine g_imulN d_M_sums_227  ?_
      refine g_iaddN d_M_sums_228  ?_
      refine g_iload_n d_M_sums_229 rfl rfl ?_
      refine g_iaddN d_M_sums_230  ?_
      refine g_iload d_M_sums_231 rfl ?_
      refine g_iaddN d_M_sums_233  ?_
      refine g_istore d_M_sums_234 (Nat.le_of_ble_eq_true rfl) ?_
      have hlt := idx_lt ⟨hD.2.2.1, hD.2.2.2.1⟩ ⟨hD.2.2.2.2.1, hD.2.2.2.2.2⟩ hp (show x0 + i < wdN A p by omega) (show y0 + y < wdN B p by omega)
      rw [← Nat.add_assoc] at hlt
      refine g_aload_n d_M_sums_236 rfl rfl ?_
      refine g_getA d_M_sums_237 fM_94 (by decide) ?_
      refine g_iload d_M_sums_240 rfl ?_
      refine g_aload_n d_M_sums_242 rfl rfl ?_
      refine g_get d_M_sums_243 fM_132 rfl ?_
      refine g_if_eq (tgt := 253) d_M_sums_246 (by decide) (fun c_246 => ?_) (fun c_246 => ?_)
      · skip
        refine g_aload_n d_M_sums_253 rfl rfl ?_
        refine g_getA d_M_sums_254 fM_94 (by decide) ?_
        refine g_iload d_M_sums_257 rfl ?_
        refine g_iaload (k := 9) d_M_sums_259 rfl (by decide) (by decide) rfl (vp_in_nI (show atN A B p + wdN A p * (y0 + y) + x0 + i < 6144 by omega) (by decide)) ?_
        refine g_iload d_M_sums_260 rfl ?_
        refine g_bipush (v := nI 15) d_M_sums_262 (by decide) ?_
        refine g_ishr d_M_sums_264 ?_
        refine g_iadd d_M_sums_265 ?_
        refine g_iconst (v := nI 0) d_M_sums_266 (by decide) ?_
        refine g_sipush (v := nI 255) d_M_sums_267 (by decide) ?_
        refine g_calls (As := [_, _, _]) d_M_sums_270 lM_138 ms_M_held rfl rfl rfl (Nat.le_of_ble_eq_true rfl) (by decide) (fun h hW => m_M_held) ?_
        refine g_iastore (k := 9) d_M_sums_273 rfl (by decide) (by decide) rfl (vp_in_nI (show atN A B p + wdN A p * (y0 + y) + x0 + i < 6144 by omega) (by decide)) ?_
        first | refine g_iinc1 d_M_sums_274 rfl ?_ | refine g_iinc d_M_sums_274 rfl ?_
        refine g_goto (tgt := 159) d_M_sums_277 (by decide) ?_
        rw [nI_clamp (by omega)]
        have e9 : fS3 σ A B p x0 y0 y i 9 (atN A B p + wdN A p * (y0 + y) + x0 + i) = σ 9 (atN A B p + wdN A p * (y0 + y) + x0 + i) := (sa_at _ _ _ _).trans (by rw [if_neg]; rintro ⟨a, b⟩; unfold ltR at b; have h3 := dec_n ⟨hD.2.2.1, hD.2.2.2.1⟩ ⟨hD.2.2.2.2.1, hD.2.2.2.2.2⟩ hp (show x0 + i < wdN A p by omega) (show y0 + y < wdN B p by omega); rw [← Nat.add_assoc] at h3; omega)
        have hst := fS3_s (σ := σ) (y := y) (x := i) ⟨hD.2.2.1, hD.2.2.2.1⟩ ⟨hD.2.2.2.2.1, hD.2.2.2.2.2⟩ hp hx0 hy0 hi hy
        have e32 : fS3 σ A B p x0 y0 y i 32 0 = σ 32 0 := rfl
        first
          | (rw [e9]; rw [if_pos (e32.symm.trans c_246)] at hst; rw [hst]; exact g_forget 7 (g_forget 8 ih))
          | (rw [if_neg (fun h9 => c_246 (e32.trans h9))] at hst; rw [hst]; exact g_forget 7 (g_forget 8 ih))
      · skip
        refine g_iconst (v := nI 0) d_M_sums_249 (by decide) ?_
        refine g_goto (tgt := 260) d_M_sums_250 (by decide) ?_
        refine g_iload d_M_sums_260 rfl ?_
        refine g_bipush (v := nI 15) d_M_sums_262 (by decide) ?_
        refine g_ishr d_M_sums_264 ?_
        refine g_iadd d_M_sums_265 ?_
        refine g_iconst (v := nI 0) d_M_sums_266 (by decide) ?_
        refine g_sipush (v := nI 255) d_M_sums_267 (by decide) ?_
        refine g_calls (As := [_, _, _]) d_M_sums_270 lM_138 ms_M_held rfl rfl rfl (Nat.le_of_ble_eq_true rfl) (by decide) (fun h hW => m_M_held) ?_
        refine g_iastore (k := 9) d_M_sums_273 rfl (by decide) (by decide) rfl (vp_in_nI (show atN A B p + wdN A p * (y0 + y) + x0 + i < 6144 by omega) (by decide)) ?_
        first | refine g_iinc1 d_M_sums_274 rfl ?_ | refine g_iinc d_M_sums_274 rfl ?_
        refine g_goto (tgt := 159) d_M_sums_277 (by decide) ?_
        rw [nI_clamp (by omega)]
        have e9 : fS3 σ A B p x0 y0 y i 9 (atN A B p + wdN A p * (y0 + y) + x0 + i) = σ 9 (atN A B p + wdN A p * (y0 + y) + x0 + i) := (sa_at _ _ _ _).trans (by rw [if_neg]; rintro ⟨a, b⟩; unfold ltR at b; have h3 := dec_n ⟨hD.2.2.1, hD.2.2.2.1⟩ ⟨hD.2.2.2.2.1, hD.2.2.2.2.2⟩ hp (show x0 + i < wdN A p by omega) (show y0 + y < wdN B p by omega); rw [← Nat.add_assoc] at h3; omega)
        have hst := fS3_s (σ := σ) (y := y) (x := i) ⟨hD.2.2.1, hD.2.2.2.1⟩ ⟨hD.2.2.2.2.1, hD.2.2.2.2.2⟩ hp hx0 hy0 hi hy
        have e32 : fS3 σ A B p x0 y0 y i 32 0 = σ 32 0 := rfl
        first
          | (rw [e9]; rw [if_pos (e32.symm.trans c_246)] at hst; rw [hst]; exact g_forget 7 (g_forget 8 ih))
          | (rw [if_neg (fun h9 => c_246 (e32.trans h9))] at hst; rw [hst]; exact g_forget 7 (g_forget 8 ih))
  · skip
    refine g_iload d_M_sums_159 rfl ?_
    refine g_bipush (v := nI 8) d_M_sums_161 (by decide) ?_
    refine g_icmp_ge (tgt := 280) d_M_sums_163 (by decide) (fun c_163 => ?_) (fun c_163 => ?_)
    · skip
      rw [← fS3_8] at k
      exact k
    · exact absurd (nI_le (Nat.le_refl 8) (by decide)) c_163
theorem m_sm_py (hD : okD σ A B) (hp : p < 3) (hx0 : x0 + 8 ≤ wdN A p) (hy0 : y0 + 8 ≤ wdN B p) (k : GQ s0 l M_M_sums hB m 286 [some (.ref m), some (.int (nI p)), some (.int (nI x0)), some (.int (nI y0)), none, some (.int (nI 8)), none, none, none] [] (fSm σ A B p x0 y0) P) : GQ s0 l M_M_sums hB m 149 [some (.ref m), some (.int (nI p)), some (.int (nI x0)), some (.int (nI y0)), none, some (.int (nI 0)), none, none, none] [] (fS2 σ 64) P := by
  have key := g_loop (s0 := s0) (l := l) (M := M_M_sums) (hB := hB) (m := m) (P := P) (pc := 149) 8 (fun i => fS3 σ A B p x0 y0 i 0) (fun i => [some (.ref m), some (.int (nI p)), some (.int (nI x0)), some (.int (nI y0)), none, some (.int (nI i)), none, none, none]) (fun i hi ih => ?_) ?_ 0 (Nat.zero_le _)
  · rw [fS3_0] at key; exact key
  · skip
    refine g_iload d_M_sums_149 rfl ?_
    refine g_bipush (v := nI 8) d_M_sums_151 (by decide) ?_
    refine g_icmp_ge (tgt := 286) d_M_sums_153 (by decide) (fun c_153 => ?_) (fun c_153 => ?_)
    · exact absurd ((nI_leI (by omega) (by omega)).mp c_153) (by omega)
    · skip
      refine g_iconst (v := nI 0) d_M_sums_156 (by decide) ?_
      refine g_istore d_M_sums_157 (Nat.le_of_ble_eq_true rfl) ?_
      refine m_sm_px hD hp hx0 hy0 hi ?_
      first | refine g_iinc1 d_M_sums_280 rfl ?_ | refine g_iinc d_M_sums_280 rfl ?_
      refine g_goto (tgt := 149) d_M_sums_283 (by decide) ?_
      exact g_forget 6 ih
  · skip
    refine g_iload d_M_sums_149 rfl ?_
    refine g_bipush (v := nI 8) d_M_sums_151 (by decide) ?_
    refine g_icmp_ge (tgt := 286) d_M_sums_153 (by decide) (fun c_153 => ?_) (fun c_153 => ?_)
    · skip
      rw [fS3_e]
      exact k
    · exact absurd (nI_le (Nat.le_refl 8) (by decide)) c_153
end SM
theorem m_sums {s0 : State} {l : Launch} {m : Nat} {σ : Sg} {A B p x0 y0 : Nat} (hD : okD σ A B) (hp : p < 3) (hx0 : x0 + 8 ≤ wdN A p) (hy0 : y0 + 8 ≤ wdN B p) : GC s0 l M_M_sums m [.int (nI p), .int (nI x0), .int (nI y0)] σ (fun r σ' => r = none ∧ σ' = fSm σ A B p x0 y0) := by
  refine g_in (by decide) rfl rfl (Nat.le_of_ble_eq_true rfl) (fun hB => ?_)
  refine g_iconst (v := nI 0) d_M_sums_0 (by decide) ?_
  refine g_istore d_M_sums_1 (Nat.le_of_ble_eq_true rfl) ?_
  refine g_iconst (v := nI 0) d_M_sums_3 (by decide) ?_
  refine g_istore d_M_sums_4 (Nat.le_of_ble_eq_true rfl) ?_
  refine m_sm_1 ?_
  refine g_iload d_M_sums_31 rfl ?_
  refine g_iconst (v := nI 2) d_M_sums_33 (by decide) ?_
  refine g_irem d_M_sums_34 (by decide) ?_
  refine g_if_ne (tgt := 49) d_M_sums_35 (by decide) (fun c_35 => ?_) (fun c_35 => ?_)
  · skip
    have hs1 : σ = fS1 σ := by
      unfold fS1
      exact (sa_self (fun j => by unfold facP; rw [if_neg (show ¬ rm2 (fAll σ) = 0 from c_35)]; split <;> simp_all)).symm
    refine g_iconst (v := nI 0) d_M_sums_49 (by decide) ?_
    refine g_istore d_M_sums_50 (Nat.le_of_ble_eq_true rfl) ?_
    refine g_st hs1 ?_
    refine g_forget 4 ?_
    refine m_sm_v ?_
    refine g_iconst (v := nI 0) d_M_sums_146 (by decide) ?_
    refine g_istore d_M_sums_147 (Nat.le_of_ble_eq_true rfl) ?_
    refine m_sm_py hD hp hx0 hy0 ?_
    refine g_vret d_M_sums_286 rfl ?_
    exact ⟨rfl, rfl⟩
  · skip
    refine g_aload_n d_M_sums_38 rfl rfl ?_
    refine g_getA d_M_sums_39 fM_120 (by decide) ?_
    refine g_bipush (v := nI 63) d_M_sums_42 (by decide) ?_
    refine g_dup2 d_M_sums_44 rfl rfl ?_
    refine g_iaload (k := 38) d_M_sums_45 rfl (by decide) (by decide) rfl (vp_in_nI (show 63 < 64 by decide) (by decide)) ?_
    refine g_iconst (v := nI 1) d_M_sums_46 (by decide) ?_
    refine g_ixor d_M_sums_47 ?_
    refine g_iastore (k := 38) d_M_sums_48 rfl (by decide) (by decide) rfl (vp_in_nI (show 63 < 64 by decide) (by decide)) ?_
    have hs1 : su σ 38 (nI 63).toNatClampNeg (σ 38 (nI 63).toNatClampNeg ^^^ nI 1) = fS1 σ := by
      unfold fS1
      funext a b
      unfold su sa facP
      rw [if_pos (show rm2 (fAll σ) = 0 from c_35)]
      by_cases e : a = 38
      · by_cases e2 : b = 63
        · subst e; subst e2; rfl
        · rw [if_neg (fun z => e2 z.2), if_pos e, if_neg e2, e]
      · rw [if_neg (fun z => e z.1), if_neg e]
    refine g_iconst (v := nI 0) d_M_sums_49 (by decide) ?_
    refine g_istore d_M_sums_50 (Nat.le_of_ble_eq_true rfl) ?_
    refine g_st hs1 ?_
    refine g_forget 4 ?_
    refine m_sm_v ?_
    refine g_iconst (v := nI 0) d_M_sums_146 (by decide) ?_
    refine g_istore d_M_sums_147 (Nat.le_of_ble_eq_true rfl) ?_
    refine m_sm_py hD hp hx0 hy0 ?_
    refine g_vret d_M_sums_286 rfl ?_
    exact ⟨rfl, rfl⟩

