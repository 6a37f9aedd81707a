/-! ===== feed, end, bits, read ===== -/
theorem su_su {σ : Sg} {k j : Nat} {v w : Int32} : su (su σ k j v) k j w = su σ k j w := by
  funext a b
  unfold su
  split <;> rfl
def okT (σ : Sg) (tb : Nat) : Prop := σ 2 0 = nI tb ∧ tb ≤ 32000
theorem tpd {σ : Sg} {tb : Nat} (h : okT σ tb) : (σ 2 0 + nI 7) / nI 8 = nI ((tb + 7) / 8) := by
  rw [h.1, nI_add, pk_div (by have := h.2; omega) (by decide) (by decide)]
def five (a b c d e : Int32) (k : Nat) : Int32 := match k with
  | 0 => a
  | 1 => b
  | 2 => c
  | 3 => d
  | _ => e
def fFv (σ : Sg) (a b c d e : Int32) : Sg := su (su (su (su (su (su σ 0 0 (nI 0)) 42 0 a) 42 1 b) 42 2 c) 42 3 d) 42 4 e
def fFd (σ : Sg) (a b c d e : Int32) (nb n : Nat) : Sg := sa (fFv σ a b c d e) 1 (fun j => if nb ≤ j ∧ j < nb + n then (five a b c d e ((j - nb) / 4) >>> (nI (24 - 8 * ((j - nb) % 4)) &&& 31)).toInt8.toInt32 else σ 1 j)
theorem fFd_0 {σ : Sg} {a b c d e : Int32} {nb : Nat} : fFd σ a b c d e nb 0 = fFv σ a b c d e := sa_self (fun j => by rw [if_neg (by omega)]; rfl)
theorem fFd_s {σ : Sg} {a b c d e : Int32} {nb n : Nat} : su (fFd σ a b c d e nb n) 1 (nb + n) (five a b c d e (n / 4) >>> (nI (24 - 8 * (n % 4)) &&& 31)).toInt8.toInt32 = fFd σ a b c d e nb (n + 1) := su_sa (fun j => by
  by_cases h : j = nb + n
  · rw [if_pos h, if_pos (by omega)]
    have e : j - nb = n := by omega
    rw [e]
  · rw [if_neg h]
    by_cases h2 : nb ≤ j ∧ j < nb + n
    · rw [if_pos h2, if_pos (by omega)]
    · rw [if_neg h2, if_neg (by omega)])
theorem five_at {σ : Sg} {a b c d e : Int32} {nb n i : Nat} (hi : i < 5) : fFd σ a b c d e nb n 42 i = five a b c d e i := by
  rcases (show i = 0 ∨ i = 1 ∨ i = 2 ∨ i = 3 ∨ i = 4 by omega) with rfl | rfl | rfl | rfl | rfl <;> rfl
def fFeed (σ : Sg) (a b c d e : Int32) (tb : Nat) : Int32 × Sg := if (tb + 7) / 8 + 20 ≤ 4000 then (nI ((tb + 7) / 8 + 20), su (fFd σ a b c d e ((tb + 7) / 8) 20) 2 0 (nI (8 * ((tb + 7) / 8 + 20)))) else (-1, su σ 0 0 (nI 0))
theorem m_feed_l {s0 : State} {l : Launch} {hB : Mem} {m nb : Nat} {a b c d e : Int32} {σ : Sg} {P : Option Value → Sg → Prop} (hn : nb + 20 ≤ 4000) (k : GQ s0 l M_M_feed hB m 108 [some (.ref m), some (.int a), some (.int b), some (.int c), some (.int d), some (.int e), some (.int (nI nb)), some (.int (nI 20))] [] (fFd σ a b c d e nb 20) P) : GQ s0 l M_M_feed hB m 64 [some (.ref m), some (.int a), some (.int b), some (.int c), some (.int d), some (.int e), some (.int (nI nb)), some (.int (nI 0))] [] (fFv σ a b c d e) P := by
  have key := g_loop (s0 := s0) (l := l) (M := M_M_feed) (hB := hB) (m := m) (P := P) (pc := 64) 20 (fun i => fFd σ a b c d e nb i) (fun i => [some (.ref m), some (.int a), some (.int b), some (.int c), some (.int d), some (.int e), some (.int (nI nb)), some (.int (nI i))]) (fun i hi ih => ?_) ?_ 0 (Nat.zero_le _)
  · rw [fFd_0] at key
    exact key
  · skip
    refine g_iload d_M_feed_64 rfl ?_
    refine g_bipush (v := nI 20) d_M_feed_66 (by decide) ?_
    refine g_icmp_ge (tgt := 108) d_M_feed_68 (by decide) (fun c_68 => ?_) (fun c_68 => ?_)
    · exact absurd ((nI_leI (by omega) (by omega)).mp c_68) (by omega)
    · skip
      refine g_aload_n d_M_feed_71 rfl rfl ?_
      refine g_getA d_M_feed_72 fM_107 (by decide) ?_
      refine g_iload d_M_feed_75 rfl ?_
      refine g_iload d_M_feed_77 rfl ?_
      refine g_iaddN d_M_feed_79  ?_
      refine g_aload_n d_M_feed_80 rfl rfl ?_
      refine g_getA d_M_feed_81 fM_126 (by decide) ?_
      refine g_iload d_M_feed_84 rfl ?_
      refine g_iconst (v := nI 4) d_M_feed_86 (by decide) ?_
      refine g_idivN d_M_feed_87 ⟨by omega, by decide, by decide⟩ ?_
      refine g_iaload (k := 42) d_M_feed_88 rfl (by decide) (by decide) rfl (vp_in_nI (by show i / 4 < 5; omega) (by decide)) ?_
      refine g_bipush (v := nI 24) d_M_feed_89 (by decide) ?_
      refine g_bipush (v := nI 8) d_M_feed_91 (by decide) ?_
      refine g_iload d_M_feed_93 rfl ?_
      refine g_iconst (v := nI 4) d_M_feed_95 (by decide) ?_
      refine g_iremN d_M_feed_96 ⟨by omega, by decide, by decide⟩ ?_
      refine g_imulN d_M_feed_97  ?_
      refine g_isubN d_M_feed_98 (by omega) ?_
      refine g_ishr d_M_feed_99 ?_
      refine g_i2b d_M_feed_100 ?_
      refine g_bastore (k := 1) d_M_feed_101 rfl (by decide) (by decide) rfl (vp_in_nI (by show nb + i < 4000; omega) (by decide)) ?_
      first | refine g_iinc1 d_M_feed_102 rfl ?_ | refine g_iinc d_M_feed_102 rfl ?_
      refine g_goto (tgt := 64) d_M_feed_105 (by decide) ?_
      rw [nI_clamp (by omega), nI_clamp (by omega), five_at (by omega), show ∀ x : Int32, x.toInt8.toInt32.toInt8.toInt32 = x.toInt8.toInt32 from fun x => by simp, fFd_s]
      exact ih
  · skip
    refine g_iload d_M_feed_64 rfl ?_
    refine g_bipush (v := nI 20) d_M_feed_66 (by decide) ?_
    refine g_icmp_ge (tgt := 108) d_M_feed_68 (by decide) (fun c_68 => ?_) (fun c_68 => ?_)
    · skip
      exact k
    · exact absurd (nI_le (Nat.le_refl 20) (by decide)) c_68
theorem m_feed {s0 : State} {l : Launch} {m : Nat} {σ : Sg} {a b c d e : Int32} {tb : Nat} (hT : okT σ tb) : GC s0 l M_M_feed m [.int a, .int b, .int c, .int d, .int e] σ (fun r σ' => r = some (.int (fFeed σ a b c d e tb).1) ∧ σ' = (fFeed σ a b c d e tb).2) := by
  refine g_in (by decide) rfl rfl (Nat.le_of_ble_eq_true rfl) (fun hB => ?_)
  have ht2 := hT.2
  refine g_aload_n d_M_feed_0 rfl rfl ?_
  refine g_iconst (v := nI 0) d_M_feed_1 (by decide) ?_
  refine g_put d_M_feed_2 fM_1 rfl rfl rfl rfl ?_
  refine g_aload_n d_M_feed_5 rfl rfl ?_
  refine g_calli (As := []) d_M_feed_6 lM_258 mv_M_taped rfl rfl rfl (Nat.le_of_ble_eq_true rfl) (by decide) (m_taped) ?_
  rw [show (su σ 0 0 (nI 0) 2 0 + nI 7) / nI 8 = nI ((tb + 7) / 8) from tpd hT]
  refine g_istore d_M_feed_9 (Nat.le_of_ble_eq_true rfl) ?_
  refine g_iload d_M_feed_11 rfl ?_
  refine g_bipush (v := nI 20) d_M_feed_13 (by decide) ?_
  refine g_iaddN d_M_feed_15  ?_
  refine g_sipush (v := nI 4000) d_M_feed_16 (by decide) ?_
  refine g_icmp_le (tgt := 24) d_M_feed_19 (by decide) (fun c_19 => ?_) (fun c_19 => ?_)
  · skip
    have hle : (tb + 7) / 8 + 20 ≤ 4000 := (nI_leI (by omega) (by decide)).mp c_19
    unfold fFeed
    rw [if_pos hle]
    refine g_aload_n d_M_feed_24 rfl rfl ?_
    refine g_getA d_M_feed_25 fM_126 (by decide) ?_
    refine g_iconst (v := nI 0) d_M_feed_28 (by decide) ?_
    refine g_iload_n d_M_feed_29 rfl rfl ?_
    refine g_iastore (k := 42) d_M_feed_30 rfl (by decide) (by decide) rfl (vp_in_nI (show 0 < 5 by decide) (by decide)) ?_
    refine g_aload_n d_M_feed_31 rfl rfl ?_
    refine g_getA d_M_feed_32 fM_126 (by decide) ?_
    refine g_iconst (v := nI 1) d_M_feed_35 (by decide) ?_
    refine g_iload_n d_M_feed_36 rfl rfl ?_
    refine g_iastore (k := 42) d_M_feed_37 rfl (by decide) (by decide) rfl (vp_in_nI (show 1 < 5 by decide) (by decide)) ?_
    refine g_aload_n d_M_feed_38 rfl rfl ?_
    refine g_getA d_M_feed_39 fM_126 (by decide) ?_
    refine g_iconst (v := nI 2) d_M_feed_42 (by decide) ?_
    refine g_iload_n d_M_feed_43 rfl rfl ?_
    refine g_iastore (k := 42) d_M_feed_44 rfl (by decide) (by decide) rfl (vp_in_nI (show 2 < 5 by decide) (by decide)) ?_
    refine g_aload_n d_M_feed_45 rfl rfl ?_
    refine g_getA d_M_feed_46 fM_126 (by decide) ?_
    refine g_iconst (v := nI 3) d_M_feed_49 (by decide) ?_
    refine g_iload d_M_feed_50 rfl ?_
    refine g_iastore (k := 42) d_M_feed_52 rfl (by decide) (by decide) rfl (vp_in_nI (show 3 < 5 by decide) (by decide)) ?_
    refine g_aload_n d_M_feed_53 rfl rfl ?_
    refine g_getA d_M_feed_54 fM_126 (by decide) ?_
    refine g_iconst (v := nI 4) d_M_feed_57 (by decide) ?_
    refine g_iload d_M_feed_58 rfl ?_
    refine g_iastore (k := 42) d_M_feed_60 rfl (by decide) (by decide) rfl (vp_in_nI (show 4 < 5 by decide) (by decide)) ?_
    refine g_iconst (v := nI 0) d_M_feed_61 (by decide) ?_
    refine g_istore d_M_feed_62 (Nat.le_of_ble_eq_true rfl) ?_
    refine g_st (τ := fFv σ a b c d e) rfl ?_
    refine m_feed_l hle ?_
    refine g_aload_n d_M_feed_108 rfl rfl ?_
    refine g_bipush (v := nI 8) d_M_feed_109 (by decide) ?_
    refine g_iload d_M_feed_111 rfl ?_
    refine g_bipush (v := nI 20) d_M_feed_113 (by decide) ?_
    refine g_iaddN d_M_feed_115  ?_
    refine g_imulN d_M_feed_116  ?_
    refine g_put d_M_feed_117 fM_255 rfl rfl rfl rfl ?_
    refine g_iload d_M_feed_120 rfl ?_
    refine g_bipush (v := nI 20) d_M_feed_122 (by decide) ?_
    refine g_iaddN d_M_feed_124  ?_
    refine g_iret d_M_feed_125 rfl rfl ?_
    exact ⟨rfl, rfl⟩
  · skip
    refine g_iconst (v := (-1)) d_M_feed_22 (by decide) ?_
    refine g_iret d_M_feed_23 rfl rfl ?_
    unfold fFeed
    rw [if_neg (fun h9 => c_19 (nI_le h9 (by decide)))]
    exact ⟨rfl, rfl⟩

def fEnd (σ : Sg) (n : Int32) (tb : Nat) : Int32 × Sg := if n < 0 then (nI 0, su σ 0 0 (nI 0)) else if n ≤ nI ((tb + 7) / 8) then (nI 1, su (su σ 0 0 (nI 0)) 2 0 (nI 8 * n)) else (nI 0, su σ 0 0 (nI 0))
theorem m_end {s0 : State} {l : Launch} {m : Nat} {σ : Sg} {n : Int32} {tb : Nat} (hT : okT σ tb) : GC s0 l M_M_end m [.int n] σ (fun r σ' => r = some (.int (fEnd σ n tb).1) ∧ σ' = (fEnd σ n tb).2) := by
  refine g_in (by decide) rfl rfl (Nat.le_of_ble_eq_true rfl) (fun hB => ?_)
  refine g_aload_n d_M_end_0 rfl rfl ?_
  refine g_iconst (v := nI 0) d_M_end_1 (by decide) ?_
  refine g_put d_M_end_2 fM_1 rfl rfl rfl rfl ?_
  refine g_iload_n d_M_end_5 rfl rfl ?_
  refine g_if_lt (tgt := 17) d_M_end_6 (by decide) (fun c_6 => ?_) (fun c_6 => ?_)
  · skip
    refine g_iconst (v := nI 0) d_M_end_17 (by decide) ?_
    refine g_iret d_M_end_18 rfl rfl ?_
    unfold fEnd
    first
      | (rw [if_pos c_6]; exact ⟨rfl, rfl⟩)
      | (rw [if_neg c_6, if_pos c_14]; exact ⟨rfl, rfl⟩)
      | (rw [if_neg c_6, if_neg c_14]; exact ⟨rfl, rfl⟩)
  · skip
    refine g_iload_n d_M_end_9 rfl rfl ?_
    refine g_aload_n d_M_end_10 rfl rfl ?_
    refine g_calli (As := []) d_M_end_11 lM_258 mv_M_taped rfl rfl rfl (Nat.le_of_ble_eq_true rfl) (by decide) (m_taped) ?_
    rw [show (su σ 0 0 (nI 0) 2 0 + nI 7) / nI 8 = nI ((tb + 7) / 8) from tpd hT]
    refine g_icmp_le (tgt := 19) d_M_end_14 (by decide) (fun c_14 => ?_) (fun c_14 => ?_)
    · skip
      refine g_aload_n d_M_end_19 rfl rfl ?_
      refine g_bipush (v := nI 8) d_M_end_20 (by decide) ?_
      refine g_iload_n d_M_end_22 rfl rfl ?_
      refine g_imul d_M_end_23 ?_
      refine g_put d_M_end_24 fM_255 rfl rfl rfl rfl ?_
      refine g_iconst (v := nI 1) d_M_end_27 (by decide) ?_
      refine g_iret d_M_end_28 rfl rfl ?_
      unfold fEnd
      first
        | (rw [if_pos c_6]; exact ⟨rfl, rfl⟩)
        | (rw [if_neg c_6, if_pos c_14]; exact ⟨rfl, rfl⟩)
        | (rw [if_neg c_6, if_neg c_14]; exact ⟨rfl, rfl⟩)
    · skip
      refine g_iconst (v := nI 0) d_M_end_17 (by decide) ?_
      refine g_iret d_M_end_18 rfl rfl ?_
      unfold fEnd
      first
        | (rw [if_pos c_6]; exact ⟨rfl, rfl⟩)
        | (rw [if_neg c_6, if_pos c_14]; exact ⟨rfl, rfl⟩)
        | (rw [if_neg c_6, if_neg c_14]; exact ⟨rfl, rfl⟩)

def fB1 (b : Int32) (tb : Nat) (σ : Sg) : Sg := su (su σ 1 (tb / 8) ((if tb % 8 = 0 then nI 0 else σ 1 (tb / 8)) ||| b <<< (nI (7 - tb % 8) &&& 31)).toInt8.toInt32) 2 0 (nI (tb + 1))
def fBs2 (v : Int32) : Nat → Nat → Sg → Sg
  | 0, _, σ => σ
  | n + 1, tb, σ => fBs2 v n (tb + 1) (fB1 (v >>> (nI n &&& 31) &&& nI 1) tb σ)
theorem bs2_T (v : Int32) : ∀ (n tb : Nat) {σ : Sg}, okT σ tb → tb + n ≤ 32000 → okT (fBs2 v n tb σ) (tb + n)
  | 0, tb, σ, h, _ => h
  | n + 1, tb, σ, h, h2 => by
    have h3 := bs2_T v n (tb + 1) (σ := fB1 (v >>> (nI n &&& 31) &&& nI 1) tb σ) ⟨su_at _ _ _ _, by omega⟩ (by omega)
    have e : tb + (n + 1) = tb + 1 + n := by omega
    rw [e]
    exact h3
def fBits (σ : Sg) (v n : Int32) (tb : Nat) : Int32 × Sg := if n < nI 1 then (-1, su σ 0 0 (nI 0)) else if nI 32 < n then (-1, su σ 0 0 (nI 0)) else if nI tb + n ≤ nI 32000 then (nI (tb + n.toNatClampNeg), fBs2 v n.toNatClampNeg tb (su σ 0 0 (nI 0))) else (-1, su σ 0 0 (nI 0))
theorem m_bits_l {s0 : State} {l : Launch} {hB : Mem} {m : Nat} {v w : Int32} : ∀ (n tb : Nat) (y4 : Option Value) (σ : Sg), okT σ tb → tb + n ≤ 32000 → n ≤ 32 → GQ s0 l M_M_bits hB m 34 [some (.ref m), some (.int v), some (.int w), some (.int (nI n - nI 1)), y4] [] σ (fun r σ' => r = some (.int (nI (tb + n))) ∧ σ' = fBs2 v n tb σ) := by
  intro n
  induction n with
  | zero =>
    intro tb y4 σ hT h1 h2
    refine g_iload_n d_M_bits_34 rfl rfl ?_
    refine g_if_lt (tgt := 108) d_M_bits_35 (by decide) (fun c_35 => ?_) (fun c_35 => ?_)
    · skip
      refine g_aload_n d_M_bits_108 rfl rfl ?_
      refine g_getE d_M_bits_109 fM_255 rfl hT.1 ?_
      refine g_iret d_M_bits_112 rfl rfl ?_
      exact ⟨rfl, rfl⟩
    · exact absurd (show nI 0 - nI 1 < 0 by decide) c_35
  | succ n ih =>
    intro tb y4 σ hT h1 h2
    have e0 : nI (n + 1) - nI 1 = nI n := pk_sub (by omega)
    rw [e0]
    have e1 : nI n + Int32.ofInt (-1) = nI n - nI 1 := by rw [Int32.sub_eq_add_neg]; rfl
    have e2 : tb + (n + 1) = tb + 1 + n := by omega
    rw [e2]
    have hT2 : fB1 (v >>> (nI n &&& 31) &&& nI 1) tb σ 2 0 = nI (tb + 1) := su_at _ _ _ _
    refine g_iload_n d_M_bits_34 rfl rfl ?_
    refine g_if_lt (tgt := 108) d_M_bits_35 (by decide) (fun c_35 => ?_) (fun c_35 => ?_)
    · exact absurd c_35 (Int32.not_lt.mpr (nI_pos' (by omega)))
    · skip
      refine g_aload_n d_M_bits_38 rfl rfl ?_
      refine g_getE d_M_bits_39 fM_255 rfl hT.1 ?_
      refine g_bipush (v := nI 8) d_M_bits_42 (by decide) ?_
      refine g_idivN d_M_bits_44 ⟨by omega, by decide, by decide⟩ ?_
      refine g_istore d_M_bits_45 (Nat.le_of_ble_eq_true rfl) ?_
      refine g_aload_n d_M_bits_47 rfl rfl ?_
      refine g_getE d_M_bits_48 fM_255 rfl hT.1 ?_
      refine g_bipush (v := nI 8) d_M_bits_51 (by decide) ?_
      refine g_iremN d_M_bits_53 ⟨by omega, by decide, by decide⟩ ?_
      refine g_if_ne (tgt := 65) d_M_bits_54 (by decide) (fun c_54 => ?_) (fun c_54 => ?_)
      · skip
        refine g_aload_n d_M_bits_65 rfl rfl ?_
        refine g_getA d_M_bits_66 fM_107 (by decide) ?_
        refine g_iload d_M_bits_69 rfl ?_
        refine g_dup2 d_M_bits_71 rfl rfl ?_
        refine g_baload (k := 1) d_M_bits_72 rfl (by decide) (by decide) rfl (vp_in_nI (by show tb / 8 < 4000; omega) (by decide)) ?_
        refine g_iload_n d_M_bits_73 rfl rfl ?_
        refine g_iload_n d_M_bits_74 rfl rfl ?_
        refine g_ishr d_M_bits_75 ?_
        refine g_iconst (v := nI 1) d_M_bits_76 (by decide) ?_
        refine g_iand d_M_bits_77 ?_
        refine g_bipush (v := nI 7) d_M_bits_78 (by decide) ?_
        refine g_aload_n d_M_bits_80 rfl rfl ?_
        refine g_getE d_M_bits_81 fM_255 rfl hT.1 ?_
        refine g_bipush (v := nI 8) d_M_bits_84 (by decide) ?_
        refine g_iremN d_M_bits_86 ⟨by omega, by decide, by decide⟩ ?_
        refine g_isubN d_M_bits_87 (by omega) ?_
        refine g_ishl d_M_bits_88 ?_
        refine g_ior d_M_bits_89 ?_
        refine g_i2b d_M_bits_90 ?_
        refine g_bastore (k := 1) d_M_bits_91 rfl (by decide) (by decide) rfl (vp_in_nI (by show tb / 8 < 4000; omega) (by decide)) ?_
        refine g_aload_n d_M_bits_92 rfl rfl ?_
        refine g_dup d_M_bits_93 rfl ?_
        refine g_getE d_M_bits_94 fM_255 rfl hT.1 ?_
        refine g_iconst (v := nI 1) d_M_bits_97 (by decide) ?_
        refine g_iaddN d_M_bits_98  ?_
        refine g_put d_M_bits_99 fM_255 rfl rfl rfl rfl ?_
        refine g_iinc d_M_bits_102 rfl ?_
        refine g_goto (tgt := 34) d_M_bits_105 (by decide) ?_
        refine g_st (τ := fB1 (v >>> (nI n &&& 31) &&& nI 1) tb σ) ?_ ?_
        · unfold fB1
          rw [nI_clamp (show tb / 8 < 2 ^ 31 by omega)]
          first
            | (rw [if_neg (fun h9 : tb % 8 = 0 => c_54 (by rw [h9]; rfl))]; simp)
            | (rw [if_pos ((nI_eq (by omega) (by decide)).mp c_54), su_su, su_at]; simp)
        · exact e1 ▸ ih (tb + 1) _ _ ⟨hT2, by omega⟩ (by omega) (by omega)
      · skip
        refine g_aload_n d_M_bits_57 rfl rfl ?_
        refine g_getA d_M_bits_58 fM_107 (by decide) ?_
        refine g_iload d_M_bits_61 rfl ?_
        refine g_iconst (v := nI 0) d_M_bits_63 (by decide) ?_
        refine g_bastore (k := 1) d_M_bits_64 rfl (by decide) (by decide) rfl (vp_in_nI (by show tb / 8 < 4000; omega) (by decide)) ?_
        refine g_aload_n d_M_bits_65 rfl rfl ?_
        refine g_getA d_M_bits_66 fM_107 (by decide) ?_
        refine g_iload d_M_bits_69 rfl ?_
        refine g_dup2 d_M_bits_71 rfl rfl ?_
        refine g_baload (k := 1) d_M_bits_72 rfl (by decide) (by decide) rfl (vp_in_nI (by show tb / 8 < 4000; omega) (by decide)) ?_
        refine g_iload_n d_M_bits_73 rfl rfl ?_
        refine g_iload_n d_M_bits_74 rfl rfl ?_
        refine g_ishr d_M_bits_75 ?_
        refine g_iconst (v := nI 1) d_M_bits_76 (by decide) ?_
        refine g_iand d_M_bits_77 ?_
        refine g_bipush (v := nI 7) d_M_bits_78 (by decide) ?_
        refine g_aload_n d_M_bits_80 rfl rfl ?_
        refine g_getE d_M_bits_81 fM_255 rfl hT.1 ?_
        refine g_bipush (v := nI 8) d_M_bits_84 (by decide) ?_
        refine g_iremN d_M_bits_86 ⟨by omega, by decide, by decide⟩ ?_
        refine g_isubN d_M_bits_87 (by omega) ?_
        refine g_ishl d_M_bits_88 ?_
        refine g_ior d_M_bits_89 ?_
        refine g_i2b d_M_bits_90 ?_
        refine g_bastore (k := 1) d_M_bits_91 rfl (by decide) (by decide) rfl (vp_in_nI (by show tb / 8 < 4000; omega) (by decide)) ?_
        refine g_aload_n d_M_bits_92 rfl rfl ?_
        refine g_dup d_M_bits_93 rfl ?_
        refine g_getE d_M_bits_94 fM_255 rfl hT.1 ?_
        refine g_iconst (v := nI 1) d_M_bits_97 (by decide) ?_
        refine g_iaddN d_M_bits_98  ?_
        refine g_put d_M_bits_99 fM_255 rfl rfl rfl rfl ?_
        refine g_iinc d_M_bits_102 rfl ?_
        refine g_goto (tgt := 34) d_M_bits_105 (by decide) ?_
        refine g_st (τ := fB1 (v >>> (nI n &&& 31) &&& nI 1) tb σ) ?_ ?_
        · unfold fB1
          rw [nI_clamp (show tb / 8 < 2 ^ 31 by omega)]
          first
            | (rw [if_neg (fun h9 : tb % 8 = 0 => c_54 (by rw [h9]; rfl))]; simp)
            | (rw [if_pos ((nI_eq (by omega) (by decide)).mp c_54), su_su, su_at]; simp)
        · exact e1 ▸ ih (tb + 1) _ _ ⟨hT2, by omega⟩ (by omega) (by omega)
theorem m_bits {s0 : State} {l : Launch} {m : Nat} {σ : Sg} {v n : Int32} {tb : Nat} (hT : okT σ tb) : GC s0 l M_M_bits m [.int v, .int n] σ (fun r σ' => r = some (.int (fBits σ v n tb).1) ∧ σ' = (fBits σ v n tb).2) := by
  refine g_in (by decide) rfl rfl (Nat.le_of_ble_eq_true rfl) (fun hB => ?_)
  have ht2 := hT.2
  refine g_aload_n d_M_bits_0 rfl rfl ?_
  refine g_iconst (v := nI 0) d_M_bits_1 (by decide) ?_
  refine g_put d_M_bits_2 fM_1 rfl rfl rfl rfl ?_
  refine g_iload_n d_M_bits_5 rfl rfl ?_
  refine g_iconst (v := nI 1) d_M_bits_6 (by decide) ?_
  refine g_icmp_lt (tgt := 28) d_M_bits_7 (by decide) (fun c_7 => ?_) (fun c_7 => ?_)
  · skip
    refine g_iconst (v := (-1)) d_M_bits_28 (by decide) ?_
    refine g_iret d_M_bits_29 rfl rfl ?_
    unfold fBits
    first
      | (rw [if_pos c_7]; exact ⟨rfl, rfl⟩)
      | (rw [if_neg c_7, if_pos c_13]; exact ⟨rfl, rfl⟩)
      | (rw [if_neg c_7, if_neg c_13, if_neg c_25]; exact ⟨rfl, rfl⟩)
  · skip
    refine g_iload_n d_M_bits_10 rfl rfl ?_
    refine g_bipush (v := nI 32) d_M_bits_11 (by decide) ?_
    refine g_icmp_gt (tgt := 28) d_M_bits_13 (by decide) (fun c_13 => ?_) (fun c_13 => ?_)
    · skip
      refine g_iconst (v := (-1)) d_M_bits_28 (by decide) ?_
      refine g_iret d_M_bits_29 rfl rfl ?_
      unfold fBits
      first
        | (rw [if_pos c_7]; exact ⟨rfl, rfl⟩)
        | (rw [if_neg c_7, if_pos c_13]; exact ⟨rfl, rfl⟩)
        | (rw [if_neg c_7, if_neg c_13, if_neg c_25]; exact ⟨rfl, rfl⟩)
    · skip
      refine g_aload_n d_M_bits_16 rfl rfl ?_
      refine g_getE d_M_bits_17 fM_255 rfl hT.1 ?_
      refine g_iload_n d_M_bits_20 rfl rfl ?_
      refine g_iadd d_M_bits_21 ?_
      refine g_sipush (v := nI 32000) d_M_bits_22 (by decide) ?_
      refine g_icmp_le (tgt := 30) d_M_bits_25 (by decide) (fun c_25 => ?_) (fun c_25 => ?_)
      · skip
        refine g_iload_n d_M_bits_30 rfl rfl ?_
        refine g_iconst (v := nI 1) d_M_bits_31 (by decide) ?_
        refine g_isub d_M_bits_32 ?_
        refine g_istore_n d_M_bits_33 rfl (Nat.le_of_ble_eq_true rfl) ?_
        unfold fBits
        rw [if_neg c_7, if_neg c_13, if_pos c_25]
        have hn0 : ¬ n < 0 := fun h9 => c_7 (Int32.lt_trans h9 (show (0 : Int32) < nI 1 by decide))
        obtain ⟨n9, hn9, rfl⟩ := nI_of hn0
        have h32 : n9 ≤ 32 := (nI_leI hn9 (by decide)).mp (Int32.not_lt.mp c_13)
        rw [nI_add] at c_25
        have h3 := (nI_leI (by omega) (by decide)).mp c_25
        rw [nI_clamp hn9]
        exact m_bits_l n9 tb none _ hT h3 h32
      · skip
        refine g_iconst (v := (-1)) d_M_bits_28 (by decide) ?_
        refine g_iret d_M_bits_29 rfl rfl ?_
        unfold fBits
        first
          | (rw [if_pos c_7]; exact ⟨rfl, rfl⟩)
          | (rw [if_neg c_7, if_pos c_13]; exact ⟨rfl, rfl⟩)
          | (rw [if_neg c_7, if_neg c_13, if_neg c_25]; exact ⟨rfl, rfl⟩)

def fRb (σ : Sg) (n : Nat) : Sg := sa (su σ 0 0 (nI 0)) 3 (fun j => if j < n then (σ 1 (j / 8) >>> (nI (7 - j % 8) &&& 31) &&& nI 1).toInt8.toInt32 else σ 3 j)
theorem fRb_0 {σ : Sg} : fRb σ 0 = su σ 0 0 (nI 0) := sa_self (fun j => by rw [if_neg (by omega)]; rfl)
theorem fRb_s {σ : Sg} {n : Nat} : su (fRb σ n) 3 n (fRb σ n 1 (n / 8) >>> (nI (7 - n % 8) &&& 31) &&& nI 1).toInt8.toInt32 = fRb σ (n + 1) := su_sa (fun j => by
  by_cases h : j = n
  · rw [if_pos h, if_pos (by omega), h]
    rfl
  · rw [if_neg h]
    by_cases h2 : j < n
    · rw [if_pos h2, if_pos (by omega)]
    · rw [if_neg h2, if_neg (by omega)])
def fR0 (σ : Sg) (nb : Nat) : Sg := su (su (su (su (su (su (su (su (su (su (su (su (su (su (fRb σ (8 * nb)) 2 0 (nI 0)) 4 0 (nI 0)) 5 0 (nI (8 * nb))) 6 0 (-1)) 12 0 (nI 0)) 13 0 (nI 0)) 20 0 (nI 0)) 21 0 (nI 0)) 22 0 (nI 0)) 23 0 (nI 0)) 24 0 (nI 0)) 25 0 (nI 0)) 26 0 (nI 0)) 27 0 (nI 0)
noncomputable def fRd (σ : Sg) (tb : Nat) : Sg := fStr (fR0 σ ((tb + 7) / 8))
theorem and1 (x : Int32) : x &&& nI 1 = nI 0 ∨ x &&& nI 1 = nI 1 := by
  have h := pk_and x (m := nI 1) 1 (by decide)
  rw [h]
  rcases (show x.toBitVec.toNat % 2 ^ 1 = 0 ∨ x.toBitVec.toNat % 2 ^ 1 = 1 by omega) with e | e
  · exact Or.inl (by rw [e])
  · exact Or.inr (by rw [e])
theorem and1b (x : Int32) : (x &&& nI 1).toInt8.toInt32 = x &&& nI 1 := by
  rcases and1 x with e | e <;> rw [e] <;> decide
def b01s (σ : Sg) : Prop := ∀ j, j < 32000 → σ 3 j = nI 0 ∨ σ 3 j = nI 1
theorem okR_r0 {σ : Sg} {nb : Nat} (h : b01s σ) (hn : 8 * nb ≤ 32000) : okR (fR0 σ nb) := by
  refine ⟨⟨0, 8 * nb, rfl, rfl, Nat.zero_le _, hn⟩, fun j hj => ?_⟩
  have e : fR0 σ nb 3 j = if j < 8 * nb then (σ 1 (j / 8) >>> (nI (7 - j % 8) &&& 31) &&& nI 1).toInt8.toInt32 else σ 3 j := sa_at (su σ 0 0 (nI 0)) 3 _ j
  rw [e]
  split
  · rw [and1b]
    exact and1 _
  · exact h j hj
theorem m_read_l {s0 : State} {l : Launch} {hB : Mem} {m nb : Nat} {σ : Sg} {P : Option Value → Sg → Prop} (hn : nb ≤ 4000) (k : GQ s0 l M_M_read hB m 52 [some (.ref m), some (.int (nI nb)), some (.int (nI (8 * nb)))] [] (fRb σ (8 * nb)) P) : GQ s0 l M_M_read hB m 12 [some (.ref m), some (.int (nI nb)), some (.int (nI 0))] [] (su σ 0 0 (nI 0)) P := by
  have key := g_loop (s0 := s0) (l := l) (M := M_M_read) (hB := hB) (m := m) (P := P) (pc := 12) (8 * nb) (fun i => fRb σ i) (fun i => [some (.ref m), some (.int (nI nb)), some (.int (nI i))]) (fun i hi ih => ?_) ?_ 0 (Nat.zero_le _)
  · rw [fRb_0] at key
    exact key
  · skip
    refine g_iload_n d_M_read_12 rfl rfl ?_
    refine g_bipush (v := nI 8) d_M_read_13 (by decide) ?_
    refine g_iload_n d_M_read_15 rfl rfl ?_
    refine g_imulN d_M_read_16  ?_
    refine g_icmp_ge (tgt := 52) d_M_read_17 (by decide) (fun c_17 => ?_) (fun c_17 => ?_)
    · exact absurd ((nI_leI (by omega) (by omega)).mp c_17) (by omega)
    · skip
      refine g_aload_n d_M_read_20 rfl rfl ?_
      refine g_getA d_M_read_21 fM_20 (by decide) ?_
      refine g_iload_n d_M_read_24 rfl rfl ?_
      refine g_aload_n d_M_read_25 rfl rfl ?_
      refine g_getA d_M_read_26 fM_107 (by decide) ?_
      refine g_iload_n d_M_read_29 rfl rfl ?_
      refine g_bipush (v := nI 8) d_M_read_30 (by decide) ?_
      refine g_idivN d_M_read_32 ⟨by omega, by decide, by decide⟩ ?_
      refine g_baload (k := 1) d_M_read_33 rfl (by decide) (by decide) rfl (vp_in_nI (by show i / 8 < 4000; omega) (by decide)) ?_
      refine g_bipush (v := nI 7) d_M_read_34 (by decide) ?_
      refine g_iload_n d_M_read_36 rfl rfl ?_
      refine g_bipush (v := nI 8) d_M_read_37 (by decide) ?_
      refine g_iremN d_M_read_39 ⟨by omega, by decide, by decide⟩ ?_
      refine g_isubN d_M_read_40 (by omega) ?_
      refine g_ishr d_M_read_41 ?_
      refine g_iconst (v := nI 1) d_M_read_42 (by decide) ?_
      refine g_iand d_M_read_43 ?_
      refine g_i2b d_M_read_44 ?_
      refine g_bastore (k := 3) d_M_read_45 rfl (by decide) (by decide) rfl (vp_in_nI (by show i < 32000; omega) (by decide)) ?_
      first | refine g_iinc1 d_M_read_46 rfl ?_ | refine g_iinc d_M_read_46 rfl ?_
      refine g_goto (tgt := 12) d_M_read_49 (by decide) ?_
      rw [nI_clamp (by omega), nI_clamp (by omega), show ∀ x : Int32, x.toInt8.toInt32.toInt8.toInt32 = x.toInt8.toInt32 from fun x => by simp, fRb_s]
      exact ih
  · skip
    refine g_iload_n d_M_read_12 rfl rfl ?_
    refine g_bipush (v := nI 8) d_M_read_13 (by decide) ?_
    refine g_iload_n d_M_read_15 rfl rfl ?_
    refine g_imulN d_M_read_16  ?_
    refine g_icmp_ge (tgt := 52) d_M_read_17 (by decide) (fun c_17 => ?_) (fun c_17 => ?_)
    · skip
      exact k
    · exact absurd (nI_le (Nat.le_refl _) (by omega)) c_17
theorem m_read {s0 : State} {l : Launch} {m : Nat} {σ : Sg} {tb : Nat} (hT : okT σ tb) (hb : b01s σ) (hO : okO σ) : GC s0 l M_M_read m [] σ (fun r σ' => r = some (.int (fRd σ tb 22 0)) ∧ σ' = fRd σ tb) := by
  refine g_in (by decide) rfl rfl (Nat.le_of_ble_eq_true rfl) (fun hB => ?_)
  have ht2 := hT.2
  have hR0 : okR (fR0 σ ((tb + 7) / 8)) := okR_r0 hb (by omega)
  have hO0 : okO (fR0 σ ((tb + 7) / 8)) := hO.eq (fun j => rfl)
  refine g_aload_n d_M_read_0 rfl rfl ?_
  refine g_iconst (v := nI 0) d_M_read_1 (by decide) ?_
  refine g_put d_M_read_2 fM_1 rfl rfl rfl rfl ?_
  refine g_aload_n d_M_read_5 rfl rfl ?_
  refine g_calli (As := []) d_M_read_6 lM_258 mv_M_taped rfl rfl rfl (Nat.le_of_ble_eq_true rfl) (by decide) (m_taped) ?_
  rw [show (su σ 0 0 (nI 0) 2 0 + nI 7) / nI 8 = nI ((tb + 7) / 8) from tpd hT]
  refine g_istore_n d_M_read_9 rfl (Nat.le_of_ble_eq_true rfl) ?_
  refine g_iconst (v := nI 0) d_M_read_10 (by decide) ?_
  refine g_istore_n d_M_read_11 rfl (Nat.le_of_ble_eq_true rfl) ?_
  refine m_read_l (by omega) ?_
  refine g_aload_n d_M_read_52 rfl rfl ?_
  refine g_iconst (v := nI 0) d_M_read_53 (by decide) ?_
  refine g_put d_M_read_54 fM_255 rfl rfl rfl rfl ?_
  refine g_aload_n d_M_read_57 rfl rfl ?_
  refine g_iconst (v := nI 0) d_M_read_58 (by decide) ?_
  refine g_put d_M_read_59 fM_10 rfl rfl rfl rfl ?_
  refine g_aload_n d_M_read_62 rfl rfl ?_
  refine g_bipush (v := nI 8) d_M_read_63 (by decide) ?_
  refine g_iload_n d_M_read_65 rfl rfl ?_
  refine g_imulN d_M_read_66  ?_
  refine g_put d_M_read_67 fM_13 rfl rfl rfl rfl ?_
  refine g_aload_n d_M_read_70 rfl rfl ?_
  refine g_iconst (v := (-1)) d_M_read_71 (by decide) ?_
  refine g_put d_M_read_72 fM_7 rfl rfl rfl rfl ?_
  refine g_aload_n d_M_read_75 rfl rfl ?_
  refine g_iconst (v := nI 0) d_M_read_76 (by decide) ?_
  refine g_put d_M_read_77 fM_212 rfl rfl rfl rfl ?_
  refine g_aload_n d_M_read_80 rfl rfl ?_
  refine g_iconst (v := nI 0) d_M_read_81 (by decide) ?_
  refine g_put d_M_read_82 fM_215 rfl rfl rfl rfl ?_
  refine g_aload_n d_M_read_85 rfl rfl ?_
  refine g_iconst (v := nI 0) d_M_read_86 (by decide) ?_
  refine g_put d_M_read_87 fM_244 rfl rfl rfl rfl ?_
  refine g_aload_n d_M_read_90 rfl rfl ?_
  refine g_iconst (v := nI 0) d_M_read_91 (by decide) ?_
  refine g_put d_M_read_92 fM_247 rfl rfl rfl rfl ?_
  refine g_aload_n d_M_read_95 rfl rfl ?_
  refine g_iconst (v := nI 0) d_M_read_96 (by decide) ?_
  refine g_put d_M_read_97 fM_41 rfl rfl rfl rfl ?_
  refine g_aload_n d_M_read_100 rfl rfl ?_
  refine g_iconst (v := nI 0) d_M_read_101 (by decide) ?_
  refine g_put d_M_read_102 fM_222 rfl rfl rfl rfl ?_
  refine g_aload_n d_M_read_105 rfl rfl ?_
  refine g_iconst (v := nI 0) d_M_read_106 (by decide) ?_
  refine g_put d_M_read_107 fM_181 rfl rfl rfl rfl ?_
  refine g_aload_n d_M_read_110 rfl rfl ?_
  refine g_iconst (v := nI 0) d_M_read_111 (by decide) ?_
  refine g_put d_M_read_112 fM_196 rfl rfl rfl rfl ?_
  refine g_aload_n d_M_read_115 rfl rfl ?_
  refine g_iconst (v := nI 0) d_M_read_116 (by decide) ?_
  refine g_put d_M_read_117 fM_157 rfl rfl rfl rfl ?_
  refine g_aload_n d_M_read_120 rfl rfl ?_
  refine g_iconst (v := nI 0) d_M_read_121 (by decide) ?_
  refine g_put d_M_read_122 fM_151 rfl rfl rfl rfl ?_
  refine g_st (τ := fR0 σ ((tb + 7) / 8)) rfl ?_
  refine g_aload_n d_M_read_125 rfl rfl ?_
  refine g_callv (As := []) d_M_read_126 lM_261 mv_M_stream rfl rfl rfl (Nat.le_of_ble_eq_true rfl) (by decide) (m_stream hR0 hO0 ⟨0, rfl, Nat.le_refl _⟩) ?_
  refine g_aload_n d_M_read_129 rfl rfl ?_
  refine g_get d_M_read_130 fM_41 rfl ?_
  refine g_iret d_M_read_133 rfl rfl ?_
  exact ⟨rfl, rfl⟩

