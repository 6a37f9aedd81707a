/-! ===== the reference's constructor ===== -/
def vcn (s : Nat) : Nat → Nat
  | 0 => 0
  | k + 1 => vcn s k + (if k ≤ 7 ∧ s - k ≤ 7 then 1 else 0)
def cnt : Nat → Nat → Nat
  | 0, k => vcn 0 k
  | s + 1, k => cnt s (s + 1) + vcn (s + 1) k
theorem cnt_k (s k : Nat) : cnt s (k + 1) = cnt s k + (if k ≤ 7 ∧ s - k ≤ 7 then 1 else 0) := by
  cases s with
  | zero => rfl
  | succ s => exact (Nat.add_assoc _ _ _).symm
theorem cnt_s (s : Nat) : cnt (s + 1) 0 = cnt s (s + 1) := rfl
theorem cnt_z : ∀ s, s < 15 → ∀ k, k < 16 → (k ≤ s ∧ k ≤ 7 ∧ s - k ≤ 7) → zzT (cnt s k) = 8 * (if s % 2 = 1 then k else s - k) + (s - (if s % 2 = 1 then k else s - k)) ∧ cnt s k < 64 := by decide +kernel
def MIv (m : Nat) (hA : Mem) (n : Nat) (h : Mem) : Prop := (mN h = mN hA ∧ mU h = mU hA) ∧ (∀ x, x ≠ m + 11 → Sm hA h x) ∧ At h (m + 11) 11 64 (fun j => if j < n then nI (zzT j) else 0) N0
theorem MIv.put {m n : Nat} {hA h : Mem} {v : Int32} (x : MIv m hA n h) (hv : v = nI (zzT n)) : MIv m hA (n + 1) (sI h (m + 11) n v) := by
  refine ⟨x.1, fun y hy => (x.2.1 y hy).trans (Sm.sI hy), ?_⟩
  obtain ⟨a1, a2, a3, a4⟩ := x.2.2
  refine ⟨a1, a2, fun j => ?_, a4⟩
  have a5 : mI h (m + 11) j = if j < n then nI (zzT j) else 0 := a3 j
  show mI (sI h (m + 11) n v) (m + 11) j = if j < n + 1 then nI (zzT j) else 0
  rw [mI_sI]
  by_cases e : j = n
  · rw [if_pos ⟨rfl, e⟩, if_pos (by omega), hv, e]
  · rw [if_neg (fun z => e z.2), a5]
    by_cases e2 : j < n
    · rw [if_pos e2, if_pos (by omega)]
    · rw [if_neg e2, if_neg (by omega)]

theorem mi_k {s0 : State} {l : Launch} {h0 hA : Mem} {m s : Nat} {I : Nat → Int32} {R : Nat → Option Nat} {Q : Out → Mem → Prop} (hs : s < 15) (hAm : At hA m 8 0 I R) (hR : R 37 = some (m + 11)) (kk : ∀ h y3 y4 y5, MIv m hA (cnt (s + 1) 0) h → RQ s0 l M_M_init h0 126 [some (.ref m), some (.int (nI (cnt (s + 1) 0))), some (.int (nI (s + 1))), y3, y4, y5] [] h Q) : ∀ (r k : Nat) (h : Mem) (y4 y5 : Option Value), k + r = s + 1 → MIv m hA (cnt s k) h → RQ s0 l M_M_init h0 134 [some (.ref m), some (.int (nI (cnt s k))), some (.int (nI s)), some (.int (nI k)), y4, y5] [] h Q := by
  intro r
  induction r with
  | zero =>
    intro k h y4 y5 hk hx
    have ek : k = s + 1 := by omega
    subst ek
    refine q_iload_n d_M_init_134 rfl rfl ?_
    refine q_iload_n d_M_init_135 rfl rfl ?_
    refine q_icmp_gt (tgt := 201) d_M_init_136 (by decide) (fun _ => ?_) (fun c9 => absurd (nI_lt (Nat.lt_succ_self s) (by omega)) c9)
    refine q_iinc d_M_init_201 rfl ?_
    rw [show nI s + Int32.ofInt 1 = nI (s + 1) from nI_1 s]
    refine q_goto (tgt := 126) d_M_init_204 (by decide) ?_
    exact kk h _ _ _ hx
  | succ r ih =>
    intro k h y4 y5 hk hx
    have hks : k ≤ s := by omega
    refine q_iload_n d_M_init_134 rfl rfl ?_
    refine q_iload_n d_M_init_135 rfl rfl ?_
    refine q_icmp_gt (tgt := 201) d_M_init_136 (by decide) (fun c9 => absurd ((nI_ltI (by omega) (by omega)).mp c9) (by omega)) (fun _ => ?_)
    refine q_iload_n d_M_init_139 rfl rfl ?_
    refine q_iconst (v := nI 2) d_M_init_140 (by decide) ?_
    refine q_irem d_M_init_141 (by decide) ?_
    rw [pk_rem (show s < 2 ^ 31 by omega) (by decide) (by decide)]
    refine q_iconst (v := nI 1) d_M_init_142 (by decide) ?_
    by_cases hp : s % 2 = 1
    · skip
      refine q_icmp_ne (tgt := 150) d_M_init_143 (by decide) (fun c9 => absurd (by rw [hp]) c9) (fun _ => ?_)
      refine q_iload_n d_M_init_146 rfl rfl ?_
      refine q_goto (tgt := 153) d_M_init_147 (by decide) ?_
      refine q_istore d_M_init_153 (Nat.le_of_ble_eq_true rfl) ?_
      refine q_iload_n d_M_init_155 rfl rfl ?_
      refine q_iload d_M_init_156 rfl ?_
      refine q_isub d_M_init_158 ?_
      rw [show nI s - nI k = nI (s - k) from (pk_sub (by omega)).trans (congrArg nI (by omega))]
      refine q_istore d_M_init_159 (Nat.le_of_ble_eq_true rfl) ?_
      refine q_iload d_M_init_161 rfl ?_
      refine q_bipush (v := nI 7) d_M_init_163 (by decide) ?_
      refine q_icmp_gt (tgt := 195) d_M_init_165 (by decide) (fun c5 => ?_) (fun c5 => ?_)
      · have h7 := (nI_ltI (by decide) (by omega)).mp c5
        have hnv : ¬ (k ≤ 7 ∧ s - k ≤ 7) := fun z => by omega
        have hc : cnt s (k + 1) = cnt s k := by rw [cnt_k, if_neg hnv, Nat.add_zero]
        refine q_iinc d_M_init_195 rfl ?_
        rw [show nI k + Int32.ofInt 1 = nI (k + 1) from nI_1 k]
        refine q_goto (tgt := 134) d_M_init_198 (by decide) ?_
        have hx' : MIv m hA (cnt s (k + 1)) h := by rw [hc]; exact hx
        have hg := fun y4 y5 => ih (k + 1) h y4 y5 (by omega) hx'
        simp only [hc] at hg
        exact hg _ _
      · refine q_iload d_M_init_168 rfl ?_
        refine q_bipush (v := nI 7) d_M_init_170 (by decide) ?_
        refine q_icmp_le (tgt := 178) d_M_init_172 (by decide) (fun c4 => ?_) (fun c4 => ?_)
        · have h7 := (nI_leI (by omega) (by decide)).mp c4
          have h8 : (s - k) ≤ 7 := Nat.le_of_not_lt (fun z => c5 (nI_lt z (by omega)))
          obtain ⟨z1, z2⟩ := cnt_z s hs k (by omega) ⟨hks, by omega, by omega⟩
          rw [if_pos hp] at z1
          have sm := hx.2.1 m (by omega)
          have aq := hAm.sm sm
          refine q_aload_n d_M_init_178 rfl rfl ?_
          refine q_getR d_M_init_179 fM_117 rfl aq.1 (q := m + 11) ((aq.2.2.2 37).trans hR) ?_
          refine q_iload_n d_M_init_182 rfl rfl ?_
          refine q_bipush (v := nI 8) d_M_init_183 (by decide) ?_
          refine q_iload d_M_init_185 rfl ?_
          refine q_imul d_M_init_187 ?_
          refine q_iload d_M_init_188 rfl ?_
          refine q_iadd d_M_init_190 ?_
          rw [pk_mul, nI_add]
          refine q_iastore d_M_init_191 hx.2.2.1 (by rw [hx.2.2.2.1]; exact vp_in_nI z2 (by decide)) ?_
          rw [nI_clamp (show cnt s k < 2 ^ 31 by omega)]
          have hx2 := hx.put (v := nI (8 * k + (s - k))) (congrArg nI (by omega))
          have hc : cnt s (k + 1) = cnt s k + 1 := by rw [cnt_k, if_pos ⟨by omega, by omega⟩]
          refine q_iinc d_M_init_192 rfl ?_
          rw [show nI (cnt s k) + Int32.ofInt 1 = nI (cnt s (k + 1)) from (nI_1 _).trans (congrArg nI hc.symm)]
          refine q_iinc d_M_init_195 rfl ?_
          rw [show nI k + Int32.ofInt 1 = nI (k + 1) from nI_1 k]
          refine q_goto (tgt := 134) d_M_init_198 (by decide) ?_
          rw [← hc] at hx2
          exact ih (k + 1) _ _ _ (by omega) hx2
        · have h7 : 7 < k := Nat.lt_of_not_le (fun z => c4 (nI_le z (by decide)))
          have hnv : ¬ (k ≤ 7 ∧ s - k ≤ 7) := fun z => by omega
          refine q_goto (tgt := 195) d_M_init_175 (by decide) ?_
          have hc : cnt s (k + 1) = cnt s k := by rw [cnt_k, if_neg hnv, Nat.add_zero]
          refine q_iinc d_M_init_195 rfl ?_
          rw [show nI k + Int32.ofInt 1 = nI (k + 1) from nI_1 k]
          refine q_goto (tgt := 134) d_M_init_198 (by decide) ?_
          have hx' : MIv m hA (cnt s (k + 1)) h := by rw [hc]; exact hx
          have hg := fun y4 y5 => ih (k + 1) h y4 y5 (by omega) hx'
          simp only [hc] at hg
          exact hg _ _
    · skip
      refine q_icmp_ne (tgt := 150) d_M_init_143 (by decide) (fun _ => ?_) (fun c9 => absurd ((nI_eq (by omega) (by decide)).mp c9) hp)
      refine q_iload_n d_M_init_150 rfl rfl ?_
      refine q_iload_n d_M_init_151 rfl rfl ?_
      refine q_isub d_M_init_152 ?_
      rw [pk_sub hks]
      refine q_istore d_M_init_153 (Nat.le_of_ble_eq_true rfl) ?_
      refine q_iload_n d_M_init_155 rfl rfl ?_
      refine q_iload d_M_init_156 rfl ?_
      refine q_isub d_M_init_158 ?_
      rw [show nI s - nI (s - k) = nI k from (pk_sub (by omega)).trans (congrArg nI (by omega))]
      refine q_istore d_M_init_159 (Nat.le_of_ble_eq_true rfl) ?_
      refine q_iload d_M_init_161 rfl ?_
      refine q_bipush (v := nI 7) d_M_init_163 (by decide) ?_
      refine q_icmp_gt (tgt := 195) d_M_init_165 (by decide) (fun c5 => ?_) (fun c5 => ?_)
      · have h7 := (nI_ltI (by decide) (by omega)).mp c5
        have hnv : ¬ (k ≤ 7 ∧ s - k ≤ 7) := fun z => by omega
        have hc : cnt s (k + 1) = cnt s k := by rw [cnt_k, if_neg hnv, Nat.add_zero]
        refine q_iinc d_M_init_195 rfl ?_
        rw [show nI k + Int32.ofInt 1 = nI (k + 1) from nI_1 k]
        refine q_goto (tgt := 134) d_M_init_198 (by decide) ?_
        have hx' : MIv m hA (cnt s (k + 1)) h := by rw [hc]; exact hx
        have hg := fun y4 y5 => ih (k + 1) h y4 y5 (by omega) hx'
        simp only [hc] at hg
        exact hg _ _
      · refine q_iload d_M_init_168 rfl ?_
        refine q_bipush (v := nI 7) d_M_init_170 (by decide) ?_
        refine q_icmp_le (tgt := 178) d_M_init_172 (by decide) (fun c4 => ?_) (fun c4 => ?_)
        · have h7 := (nI_leI (by omega) (by decide)).mp c4
          have h8 : k ≤ 7 := Nat.le_of_not_lt (fun z => c5 (nI_lt z (by omega)))
          obtain ⟨z1, z2⟩ := cnt_z s hs k (by omega) ⟨hks, by omega, by omega⟩
          rw [if_neg hp] at z1
          have sm := hx.2.1 m (by omega)
          have aq := hAm.sm sm
          refine q_aload_n d_M_init_178 rfl rfl ?_
          refine q_getR d_M_init_179 fM_117 rfl aq.1 (q := m + 11) ((aq.2.2.2 37).trans hR) ?_
          refine q_iload_n d_M_init_182 rfl rfl ?_
          refine q_bipush (v := nI 8) d_M_init_183 (by decide) ?_
          refine q_iload d_M_init_185 rfl ?_
          refine q_imul d_M_init_187 ?_
          refine q_iload d_M_init_188 rfl ?_
          refine q_iadd d_M_init_190 ?_
          rw [pk_mul, nI_add]
          refine q_iastore d_M_init_191 hx.2.2.1 (by rw [hx.2.2.2.1]; exact vp_in_nI z2 (by decide)) ?_
          rw [nI_clamp (show cnt s k < 2 ^ 31 by omega)]
          have hx2 := hx.put (v := nI (8 * (s - k) + k)) (congrArg nI (by omega))
          have hc : cnt s (k + 1) = cnt s k + 1 := by rw [cnt_k, if_pos ⟨by omega, by omega⟩]
          refine q_iinc d_M_init_192 rfl ?_
          rw [show nI (cnt s k) + Int32.ofInt 1 = nI (cnt s (k + 1)) from (nI_1 _).trans (congrArg nI hc.symm)]
          refine q_iinc d_M_init_195 rfl ?_
          rw [show nI k + Int32.ofInt 1 = nI (k + 1) from nI_1 k]
          refine q_goto (tgt := 134) d_M_init_198 (by decide) ?_
          rw [← hc] at hx2
          exact ih (k + 1) _ _ _ (by omega) hx2
        · have h7 : 7 < (s - k) := Nat.lt_of_not_le (fun z => c4 (nI_le z (by decide)))
          have hnv : ¬ (k ≤ 7 ∧ s - k ≤ 7) := fun z => by omega
          refine q_goto (tgt := 195) d_M_init_175 (by decide) ?_
          have hc : cnt s (k + 1) = cnt s k := by rw [cnt_k, if_neg hnv, Nat.add_zero]
          refine q_iinc d_M_init_195 rfl ?_
          rw [show nI k + Int32.ofInt 1 = nI (k + 1) from nI_1 k]
          refine q_goto (tgt := 134) d_M_init_198 (by decide) ?_
          have hx' : MIv m hA (cnt s (k + 1)) h := by rw [hc]; exact hx
          have hg := fun y4 y5 => ih (k + 1) h y4 y5 (by omega) hx'
          simp only [hc] at hg
          exact hg _ _

theorem mi_s {s0 : State} {l : Launch} {h0 hA : Mem} {m : Nat} {I : Nat → Int32} {R : Nat → Option Nat} {Q : Out → Mem → Prop} (hAm : At hA m 8 0 I R) (hR : R 37 = some (m + 11)) (kk : ∀ h, MIv m hA 64 h → Q (.inl none) h) : ∀ (r s : Nat) (h : Mem) (y3 y4 y5 : Option Value), s + r = 15 → MIv m hA (cnt s 0) h → RQ s0 l M_M_init h0 126 [some (.ref m), some (.int (nI (cnt s 0))), some (.int (nI s)), y3, y4, y5] [] h Q := by
  intro r
  induction r with
  | zero =>
    intro s h y3 y4 y5 hs hx
    have es : s = 15 := by omega
    subst es
    refine q_iload_n d_M_init_126 rfl rfl ?_
    refine q_bipush (v := nI 15) d_M_init_127 (by decide) ?_
    refine q_icmp_ge (tgt := 207) d_M_init_129 (by decide) (fun _ => ?_) (fun c9 => absurd (nI_le (Nat.le_refl _) (by decide)) c9)
    refine q_vret d_M_init_207 rfl ?_
    have e : cnt 15 0 = 64 := by decide +kernel
    rw [e] at hx
    exact kk h hx
  | succ r ih =>
    intro s h y3 y4 y5 hs hx
    refine q_iload_n d_M_init_126 rfl rfl ?_
    refine q_bipush (v := nI 15) d_M_init_127 (by decide) ?_
    refine q_icmp_ge (tgt := 207) d_M_init_129 (by decide) (fun c9 => absurd ((nI_leI (by decide) (by omega)).mp c9) (by omega)) (fun _ => ?_)
    refine q_iconst (v := nI 0) d_M_init_132 (by decide) ?_
    refine q_istore_n d_M_init_133 rfl (Nat.le_of_ble_eq_true rfl) ?_
    exact mi_k (by omega) hAm hR (fun h2 y3 y4 y5 hx2 => ih (s + 1) h2 y3 y4 y5 (by omega) hx2) (s + 1) 0 h _ _ (by omega) hx

def sg0 : Sg := fun k j => if k = 6 ∧ j = 0 then -1 else if k = 37 ∧ j < 64 then nI (zzT j) else 0
def MI9 (m : Nat) (h1 : Mem) : Prop := At h1 m 8 0 (up Z0 6 (-1)) (fun k => if aOff k = 0 then none else some (m + aOff k)) ∧ ∀ k, k < 43 → aOff k ≠ 0 → At h1 (m + aOff k) (aKd k) (aLen k) (fun j => if k = 37 ∧ j < 64 then nI (zzT j) else 0) N0
theorem aks : ∀ k, k < 43 → aOff k ≠ 0 → k = 1 ∨ k = 3 ∨ k = 9 ∨ k = 10 ∨ k = 11 ∨ k = 18 ∨ k = 19 ∨ k = 28 ∨ k = 29 ∨ k = 33 ∨ k = 37 ∨ k = 38 ∨ k = 39 ∨ k = 42 := by decide +kernel

theorem q_M_init {s0 : State} {l : Launch} {h : Mem} {m : Nat} (hN : mN h = m + 1) (hA : At h m 8 0 Z0 N0) : CQ s0 l M_M_init [.ref m] h (fun o h1 => o = .inl none ∧ (mN h1 = m + 15 ∧ mU h1 = mU h + 177600) ∧ (∀ x, x < m → Sm h h1 x) ∧ MI9 m h1) := by
  refine c_in (by decide) rfl rfl (Nat.le_of_ble_eq_true rfl) ?_
  refine q_aload_n d_M_init_0 rfl rfl ?_
  refine q_objinit d_M_init_1 lM_101 w_obj1 w_obj2 (Nat.le_of_ble_eq_true rfl) (by decide) ?_
  refine q_aload_n d_M_init_4 rfl rfl ?_
  refine q_sipush (v := nI 4000) d_M_init_5 (by decide) ?_
  refine q_mkA (ci := 7) (kd := 12) (n := 4000) d_M_init_8 rfl (by decide) w_abyte (by decide) d_M_init_10 fM_107 rfl (fun _ => rfl) (fun _ => rfl) (Or.inr ⟨rfl, rfl⟩) (by omega) hA (fun h1 p1 => ?_)
  obtain ⟨⟨n1, u1⟩, s1, a1, e1⟩ := p1
  have m1 : mN h1 = m + 2 := by omega
  refine q_aload_n d_M_init_13 rfl rfl ?_
  refine q_sipush (v := nI 32000) d_M_init_14 (by decide) ?_
  refine q_mkA (ci := 7) (kd := 12) (n := 32000) d_M_init_17 rfl (by decide) w_abyte (by decide) d_M_init_19 fM_20 rfl (fun _ => rfl) (fun _ => rfl) (Or.inr ⟨rfl, rfl⟩) (by omega) a1 (fun h2 p2 => ?_)
  obtain ⟨⟨n2, u2⟩, s2, a2, e2⟩ := p2
  have m2 : mN h2 = m + 3 := by omega
  refine q_aload_n d_M_init_22 rfl rfl ?_
  refine q_iconst (v := -1) d_M_init_23 (by decide) ?_
  refine q_putI d_M_init_24 fM_7 rfl a2.1 rfl rfl (Or.inl rfl) ?_
  have b2 := a2.sI (f := 6) (v := -1)
  have sb : ∀ x, x ≠ m → Sm h2 (sI h2 m 6 (-1)) x := fun x hx => Sm.sI hx
  have nb : mN (sI h2 m 6 (-1)) = mN h2 := rfl
  have ub : mU (sI h2 m 6 (-1)) = mU h2 := rfl
  generalize sI h2 m 6 (-1) = hb at b2 sb nb ub ⊢
  refine q_aload_n d_M_init_27 rfl rfl ?_
  refine q_sipush (v := nI 6144) d_M_init_28 (by decide) ?_
  refine q_mkA (ci := 7) (kd := 11) (n := 6144) d_M_init_31 rfl (by decide) w_aint (by decide) d_M_init_33 fM_94 rfl (fun _ => rfl) (fun _ => rfl) (Or.inr ⟨rfl, rfl⟩) (by omega) b2 (fun h3 p3 => ?_)
  obtain ⟨⟨n3, u3⟩, s3, a3, e3⟩ := p3
  have m3 : mN h3 = m + 4 := by omega
  refine q_aload_n d_M_init_36 rfl rfl ?_
  refine q_sipush (v := nI 6144) d_M_init_37 (by decide) ?_
  refine q_mkA (ci := 7) (kd := 11) (n := 6144) d_M_init_40 rfl (by decide) w_aint (by decide) d_M_init_42 fM_73 rfl (fun _ => rfl) (fun _ => rfl) (Or.inr ⟨rfl, rfl⟩) (by omega) a3 (fun h4 p4 => ?_)
  obtain ⟨⟨n4, u4⟩, s4, a4, e4⟩ := p4
  have m4 : mN h4 = m + 5 := by omega
  refine q_aload_n d_M_init_45 rfl rfl ?_
  refine q_sipush (v := nI 6144) d_M_init_46 (by decide) ?_
  refine q_mkA (ci := 7) (kd := 11) (n := 6144) d_M_init_49 rfl (by decide) w_aint (by decide) d_M_init_51 fM_76 rfl (fun _ => rfl) (fun _ => rfl) (Or.inr ⟨rfl, rfl⟩) (by omega) a4 (fun h5 p5 => ?_)
  obtain ⟨⟨n5, u5⟩, s5, a5, e5⟩ := p5
  have m5 : mN h5 = m + 6 := by omega
  refine q_aload_n d_M_init_54 rfl rfl ?_
  refine q_ldc d_M_init_55 kM_110 ?_
  skip
  refine q_mkA (ci := 7) (kd := 12) (n := 122880) d_M_init_57 rfl (by decide) w_abyte (by decide) d_M_init_59 fM_44 rfl (fun _ => rfl) (fun _ => rfl) (Or.inr ⟨rfl, rfl⟩) (by omega) a5 (fun h6 p6 => ?_)
  obtain ⟨⟨n6, u6⟩, s6, a6, e6⟩ := p6
  have m6 : mN h6 = m + 7 := by omega
  refine q_aload_n d_M_init_62 rfl rfl ?_
  refine q_bipush (v := nI 80) d_M_init_63 (by decide) ?_
  refine q_mkA (ci := 7) (kd := 11) (n := 80) d_M_init_65 rfl (by decide) w_aint (by decide) d_M_init_67 fM_47 rfl (fun _ => rfl) (fun _ => rfl) (Or.inr ⟨rfl, rfl⟩) (by omega) a6 (fun h7 p7 => ?_)
  obtain ⟨⟨n7, u7⟩, s7, a7, e7⟩ := p7
  have m7 : mN h7 = m + 8 := by omega
  refine q_aload_n d_M_init_70 rfl rfl ?_
  refine q_iconst (v := nI 4) d_M_init_71 (by decide) ?_
  refine q_mkA (ci := 7) (kd := 11) (n := 4) d_M_init_72 rfl (by decide) w_aint (by decide) d_M_init_74 fM_64 rfl (fun _ => rfl) (fun _ => rfl) (Or.inr ⟨rfl, rfl⟩) (by omega) a7 (fun h8 p8 => ?_)
  obtain ⟨⟨n8, u8⟩, s8, a8, e8⟩ := p8
  have m8 : mN h8 = m + 9 := by omega
  refine q_aload_n d_M_init_77 rfl rfl ?_
  refine q_iconst (v := nI 4) d_M_init_78 (by decide) ?_
  refine q_mkA (ci := 7) (kd := 11) (n := 4) d_M_init_79 rfl (by decide) w_aint (by decide) d_M_init_81 fM_111 rfl (fun _ => rfl) (fun _ => rfl) (Or.inr ⟨rfl, rfl⟩) (by omega) a8 (fun h9 p9 => ?_)
  obtain ⟨⟨n9, u9⟩, s9, a9, e9⟩ := p9
  have m9 : mN h9 = m + 10 := by omega
  refine q_aload_n d_M_init_84 rfl rfl ?_
  refine q_iconst (v := nI 3) d_M_init_85 (by decide) ?_
  refine q_mkA (ci := 7) (kd := 11) (n := 3) d_M_init_86 rfl (by decide) w_aint (by decide) d_M_init_88 fM_114 rfl (fun _ => rfl) (fun _ => rfl) (Or.inr ⟨rfl, rfl⟩) (by omega) a9 (fun h10 p10 => ?_)
  obtain ⟨⟨n10, u10⟩, s10, a10, e10⟩ := p10
  have m10 : mN h10 = m + 11 := by omega
  refine q_aload_n d_M_init_91 rfl rfl ?_
  refine q_bipush (v := nI 64) d_M_init_92 (by decide) ?_
  refine q_mkA (ci := 7) (kd := 11) (n := 64) d_M_init_94 rfl (by decide) w_aint (by decide) d_M_init_96 fM_117 rfl (fun _ => rfl) (fun _ => rfl) (Or.inr ⟨rfl, rfl⟩) (by omega) a10 (fun h11 p11 => ?_)
  obtain ⟨⟨n11, u11⟩, s11, a11, e11⟩ := p11
  have m11 : mN h11 = m + 12 := by omega
  refine q_aload_n d_M_init_99 rfl rfl ?_
  refine q_bipush (v := nI 64) d_M_init_100 (by decide) ?_
  refine q_mkA (ci := 7) (kd := 11) (n := 64) d_M_init_102 rfl (by decide) w_aint (by decide) d_M_init_104 fM_120 rfl (fun _ => rfl) (fun _ => rfl) (Or.inr ⟨rfl, rfl⟩) (by omega) a11 (fun h12 p12 => ?_)
  obtain ⟨⟨n12, u12⟩, s12, a12, e12⟩ := p12
  have m12 : mN h12 = m + 13 := by omega
  refine q_aload_n d_M_init_107 rfl rfl ?_
  refine q_bipush (v := nI 64) d_M_init_108 (by decide) ?_
  refine q_mkA (ci := 7) (kd := 11) (n := 64) d_M_init_110 rfl (by decide) w_aint (by decide) d_M_init_112 fM_123 rfl (fun _ => rfl) (fun _ => rfl) (Or.inr ⟨rfl, rfl⟩) (by omega) a12 (fun h13 p13 => ?_)
  obtain ⟨⟨n13, u13⟩, s13, a13, e13⟩ := p13
  have m13 : mN h13 = m + 14 := by omega
  refine q_aload_n d_M_init_115 rfl rfl ?_
  refine q_iconst (v := nI 5) d_M_init_116 (by decide) ?_
  refine q_mkA (ci := 7) (kd := 11) (n := 5) d_M_init_117 rfl (by decide) w_aint (by decide) d_M_init_119 fM_126 rfl (fun _ => rfl) (fun _ => rfl) (Or.inr ⟨rfl, rfl⟩) (by omega) a13 (fun h14 p14 => ?_)
  obtain ⟨⟨n14, u14⟩, s14, a14, e14⟩ := p14
  have m14 : mN h14 = m + 15 := by omega
  refine q_iconst (v := nI 0) d_M_init_122 (by decide) ?_
  refine q_istore_n d_M_init_123 rfl (Nat.le_of_ble_eq_true rfl) ?_
  refine q_iconst (v := nI 0) d_M_init_124 (by decide) ?_
  refine q_istore_n d_M_init_125 rfl (Nat.le_of_ble_eq_true rfl) ?_
  have hR : (up (up (up (up (up (up (up (up (up (up (up (up (up (up N0 1 (some (mN h))) 3 (some (mN h1))) 9 (some (mN hb))) 10 (some (mN h3))) 11 (some (mN h4))) 18 (some (mN h5))) 19 (some (mN h6))) 28 (some (mN h7))) 29 (some (mN h8))) 33 (some (mN h9))) 37 (some (mN h10))) 38 (some (mN h11))) 39 (some (mN h12))) 42 (some (mN h13))) 37 = some (m + 11) := by
    show some (mN h10) = some (m + 11)
    rw [m10]
  have f1 := ((((((((((((((e1.sm (s2 _ (by omega) (by omega))).sm (sb _ (by omega))).sm (s3 _ (by omega) (by omega))).sm (s4 _ (by omega) (by omega))).sm (s5 _ (by omega) (by omega))).sm (s6 _ (by omega) (by omega))).sm (s7 _ (by omega) (by omega))).sm (s8 _ (by omega) (by omega))).sm (s9 _ (by omega) (by omega))).sm (s10 _ (by omega) (by omega))).sm (s11 _ (by omega) (by omega))).sm (s12 _ (by omega) (by omega))).sm (s13 _ (by omega) (by omega))).sm (s14 _ (by omega) (by omega)))
  rw [hN] at f1
  have f2 := (((((((((((((e2.sm (sb _ (by omega))).sm (s3 _ (by omega) (by omega))).sm (s4 _ (by omega) (by omega))).sm (s5 _ (by omega) (by omega))).sm (s6 _ (by omega) (by omega))).sm (s7 _ (by omega) (by omega))).sm (s8 _ (by omega) (by omega))).sm (s9 _ (by omega) (by omega))).sm (s10 _ (by omega) (by omega))).sm (s11 _ (by omega) (by omega))).sm (s12 _ (by omega) (by omega))).sm (s13 _ (by omega) (by omega))).sm (s14 _ (by omega) (by omega)))
  rw [show mN h1 = m + 2 by omega] at f2
  have f3 := (((((((((((e3.sm (s4 _ (by omega) (by omega))).sm (s5 _ (by omega) (by omega))).sm (s6 _ (by omega) (by omega))).sm (s7 _ (by omega) (by omega))).sm (s8 _ (by omega) (by omega))).sm (s9 _ (by omega) (by omega))).sm (s10 _ (by omega) (by omega))).sm (s11 _ (by omega) (by omega))).sm (s12 _ (by omega) (by omega))).sm (s13 _ (by omega) (by omega))).sm (s14 _ (by omega) (by omega)))
  rw [show mN hb = m + 3 by omega] at f3
  have f4 := ((((((((((e4.sm (s5 _ (by omega) (by omega))).sm (s6 _ (by omega) (by omega))).sm (s7 _ (by omega) (by omega))).sm (s8 _ (by omega) (by omega))).sm (s9 _ (by omega) (by omega))).sm (s10 _ (by omega) (by omega))).sm (s11 _ (by omega) (by omega))).sm (s12 _ (by omega) (by omega))).sm (s13 _ (by omega) (by omega))).sm (s14 _ (by omega) (by omega)))
  rw [show mN h3 = m + 4 by omega] at f4
  have f5 := (((((((((e5.sm (s6 _ (by omega) (by omega))).sm (s7 _ (by omega) (by omega))).sm (s8 _ (by omega) (by omega))).sm (s9 _ (by omega) (by omega))).sm (s10 _ (by omega) (by omega))).sm (s11 _ (by omega) (by omega))).sm (s12 _ (by omega) (by omega))).sm (s13 _ (by omega) (by omega))).sm (s14 _ (by omega) (by omega)))
  rw [show mN h4 = m + 5 by omega] at f5
  have f6 := ((((((((e6.sm (s7 _ (by omega) (by omega))).sm (s8 _ (by omega) (by omega))).sm (s9 _ (by omega) (by omega))).sm (s10 _ (by omega) (by omega))).sm (s11 _ (by omega) (by omega))).sm (s12 _ (by omega) (by omega))).sm (s13 _ (by omega) (by omega))).sm (s14 _ (by omega) (by omega)))
  rw [show mN h5 = m + 6 by omega] at f6
  have f7 := (((((((e7.sm (s8 _ (by omega) (by omega))).sm (s9 _ (by omega) (by omega))).sm (s10 _ (by omega) (by omega))).sm (s11 _ (by omega) (by omega))).sm (s12 _ (by omega) (by omega))).sm (s13 _ (by omega) (by omega))).sm (s14 _ (by omega) (by omega)))
  rw [show mN h6 = m + 7 by omega] at f7
  have f8 := ((((((e8.sm (s9 _ (by omega) (by omega))).sm (s10 _ (by omega) (by omega))).sm (s11 _ (by omega) (by omega))).sm (s12 _ (by omega) (by omega))).sm (s13 _ (by omega) (by omega))).sm (s14 _ (by omega) (by omega)))
  rw [show mN h7 = m + 8 by omega] at f8
  have f9 := (((((e9.sm (s10 _ (by omega) (by omega))).sm (s11 _ (by omega) (by omega))).sm (s12 _ (by omega) (by omega))).sm (s13 _ (by omega) (by omega))).sm (s14 _ (by omega) (by omega)))
  rw [show mN h8 = m + 9 by omega] at f9
  have f10 := ((((e10.sm (s11 _ (by omega) (by omega))).sm (s12 _ (by omega) (by omega))).sm (s13 _ (by omega) (by omega))).sm (s14 _ (by omega) (by omega)))
  rw [show mN h9 = m + 10 by omega] at f10
  have f11 := (((e11.sm (s12 _ (by omega) (by omega))).sm (s13 _ (by omega) (by omega))).sm (s14 _ (by omega) (by omega)))
  rw [show mN h10 = m + 11 by omega] at f11
  have f12 := ((e12.sm (s13 _ (by omega) (by omega))).sm (s14 _ (by omega) (by omega)))
  rw [show mN h11 = m + 12 by omega] at f12
  have f13 := (e13.sm (s14 _ (by omega) (by omega)))
  rw [show mN h12 = m + 13 by omega] at f13
  have f14 := e14
  rw [show mN h13 = m + 14 by omega] at f14
  have fr : ∀ x, x < m → Sm h h14 x := fun x hx => (((((((((((((((s1 x (by omega) (by omega)).trans (s2 x (by omega) (by omega))).trans (sb x (by omega))).trans (s3 x (by omega) (by omega))).trans (s4 x (by omega) (by omega))).trans (s5 x (by omega) (by omega))).trans (s6 x (by omega) (by omega))).trans (s7 x (by omega) (by omega))).trans (s8 x (by omega) (by omega))).trans (s9 x (by omega) (by omega))).trans (s10 x (by omega) (by omega))).trans (s11 x (by omega) (by omega))).trans (s12 x (by omega) (by omega))).trans (s13 x (by omega) (by omega))).trans (s14 x (by omega) (by omega)))
  have uu : mU h14 = mU h + 177600 := by omega
  refine mi_s (hA := h14) a14 hR (fun hE hx => ?_) 15 0 h14 _ _ _ (by decide) ⟨⟨rfl, rfl⟩, fun x _ => Sm.refl _ x, f11⟩
  obtain ⟨⟨x1, x2⟩, x3, x4⟩ := hx
  refine ⟨rfl, ⟨by omega, by omega⟩, fun x hx => (fr x hx).trans (x3 x (by omega)), ?_, fun k hk hk2 => ?_⟩
  · obtain ⟨w1, w2, w3, w4⟩ := a14.sm (x3 m (by omega))
    refine ⟨w1, w2, w3, fun j => ?_⟩
    rw [w4]
    rw [hN, m1, nb, m2, m3, m4, m5, m6, m7, m8, m9, m10, m11, m12, m13]
    unfold up
    show _ = if aOff j = 0 then none else some (m + aOff j)
    have key : ∀ j, j < 43 ∨ 43 ≤ j := fun j => by omega
    rcases key j with hj | hj
    · by_cases hz : aOff j = 0
      · rw [if_pos hz]
        have hne : ¬ (j = 1 ∨ j = 3 ∨ j = 9 ∨ j = 10 ∨ j = 11 ∨ j = 18 ∨ j = 19 ∨ j = 28 ∨ j = 29 ∨ j = 33 ∨ j = 37 ∨ j = 38 ∨ j = 39 ∨ j = 42) := by
          intro z
          rcases z with rfl | rfl | rfl | rfl | rfl | rfl | rfl | rfl | rfl | rfl | rfl | rfl | rfl | rfl <;> exact absurd hz (by decide)
        rw [if_neg (by omega), if_neg (by omega), if_neg (by omega), if_neg (by omega), if_neg (by omega), if_neg (by omega), if_neg (by omega), if_neg (by omega), if_neg (by omega), if_neg (by omega), if_neg (by omega), if_neg (by omega), if_neg (by omega), if_neg (by omega)]
      · rw [if_neg hz]
        rcases aks j hj hz with rfl | rfl | rfl | rfl | rfl | rfl | rfl | rfl | rfl | rfl | rfl | rfl | rfl | rfl <;> rfl
    · have hz : aOff j = 0 := by
        unfold aOff
        split <;> first | rfl | omega
      rw [if_pos hz, if_neg (by omega), if_neg (by omega), if_neg (by omega), if_neg (by omega), if_neg (by omega), if_neg (by omega), if_neg (by omega), if_neg (by omega), if_neg (by omega), if_neg (by omega), if_neg (by omega), if_neg (by omega), if_neg (by omega), if_neg (by omega)]
  · have z0 : ∀ k, k ≠ 37 → (fun j => if k = 37 ∧ j < 64 then nI (zzT j) else 0) = Z0 := fun k hk => funext fun j => if_neg (fun z => hk z.1)
    rcases aks k hk hk2 with rfl | rfl | rfl | rfl | rfl | rfl | rfl | rfl | rfl | rfl | rfl | rfl | rfl | rfl
    · rw [z0 _ (by decide)]
      exact f1.sm (x3 _ (by show m + 1 ≠ m + 11; omega))
    · rw [z0 _ (by decide)]
      exact f2.sm (x3 _ (by show m + 2 ≠ m + 11; omega))
    · rw [z0 _ (by decide)]
      exact f3.sm (x3 _ (by show m + 3 ≠ m + 11; omega))
    · rw [z0 _ (by decide)]
      exact f4.sm (x3 _ (by show m + 4 ≠ m + 11; omega))
    · rw [z0 _ (by decide)]
      exact f5.sm (x3 _ (by show m + 5 ≠ m + 11; omega))
    · rw [z0 _ (by decide)]
      exact f6.sm (x3 _ (by show m + 6 ≠ m + 11; omega))
    · rw [z0 _ (by decide)]
      exact f7.sm (x3 _ (by show m + 7 ≠ m + 11; omega))
    · rw [z0 _ (by decide)]
      exact f8.sm (x3 _ (by show m + 8 ≠ m + 11; omega))
    · rw [z0 _ (by decide)]
      exact f9.sm (x3 _ (by show m + 9 ≠ m + 11; omega))
    · rw [z0 _ (by decide)]
      exact f10.sm (x3 _ (by show m + 10 ≠ m + 11; omega))
    · have e37 : (fun j => if (37 : Nat) = 37 ∧ j < 64 then nI (zzT j) else 0) = fun j => if j < 64 then nI (zzT j) else 0 := funext fun j => by
        by_cases e : j < 64
        · rw [if_pos ⟨rfl, e⟩, if_pos e]
        · rw [if_neg (fun z => e z.2), if_neg e]
      rw [e37]
      exact x4
    · rw [z0 _ (by decide)]
      exact f12.sm (x3 _ (by show m + 12 ≠ m + 11; omega))
    · rw [z0 _ (by decide)]
      exact f13.sm (x3 _ (by show m + 13 ≠ m + 11; omega))
    · rw [z0 _ (by decide)]
      exact f14.sm (x3 _ (by show m + 14 ≠ m + 11; omega))
