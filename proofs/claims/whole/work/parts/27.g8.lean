/-! ===== what changes; allBlocks, vector ===== -/
def kp (S : List Nat) (σ σ' : Sg) : Prop := ∀ k, k ∉ S → ∀ j, σ' k j = σ k j
theorem kp.refl (S : List Nat) (σ : Sg) : kp S σ σ := fun _ _ _ => rfl
theorem kp.trans {S : List Nat} {a b c : Sg} (h : kp S a b) (h' : kp S b c) : kp S a c := fun k hk j => (h' k hk j).trans (h k hk j)
theorem kp.mono {S T : List Nat} {a b : Sg} (h : kp S a b) (hs : ∀ k, k ∈ S → k ∈ T) : kp T a b := fun k hk j => h k (fun e => hk (hs k e)) j
theorem kp.tk {S : List Nat} {a b : Sg} (h : tk a b) (h4 : 4 ∈ S) (h6 : 6 ∈ S) : kp S a b := fun k hk j => h k (fun e => hk (e ▸ h4)) (fun e => hk (e ▸ h6)) j
theorem kp.su {S : List Nat} {σ : Sg} {k j : Nat} {v : Int32} (h : k ∈ S) : kp S σ (su σ k j v) := fun k' hk' j' => su_k (fun e => hk' (e ▸ h))
theorem kp.sa {S : List Nat} {σ : Sg} {k : Nat} {f : Nat → Int32} (h : k ∈ S) : kp S σ (sa σ k f) := fun k' hk' j' => sa_k (fun e => hk' (e ▸ h))
theorem kp.eqOn {S T : List Nat} {a b : Sg} (h : kp S a b) (hT : ∀ k, k ∈ T → k ∉ S) : eqOn T a b := fun k hk j => h k (hT k hk) j
theorem kp_bk : ∀ (f w : Nat) (σ : Sg), kp [4, 6, 27, 38] σ (fBk f w σ).2
  | 0, _, σ => kp.refl _ σ
  | f + 1, w, σ => by
    have h1 : kp [4, 6, 27, 38] σ (fU 22 0 σ).2 := kp.tk (tk_u 22 0 σ) (by simp) (by simp)
    have h2 : kp [4, 6, 27, 38] (fU 22 0 σ).2 (fU 22 0 (fU 22 0 σ).2).2 := kp.tk (tk_u 22 0 _) (by simp) (by simp)
    have h3 : ∀ (τ : Sg) (x : Int32), kp [4, 6, 27, 38] τ (fW τ x) := fun τ x => kp.tk (tk_fW τ x) (by simp) (by simp)
    unfold fBk
    split
    · exact h1
    · split
      · exact h1
      · split
        · split
          · exact h1.trans h2
          · split
            · exact (h1.trans h2).trans (h3 _ _)
            · split
              · exact (h1.trans h2).trans (h3 _ _)
              · split
                · exact (((h1.trans h2).trans (kp.su (by simp))).trans (kp.su (by simp))).trans (kp_bk f _ _)
                · exact (h1.trans h2).trans (h3 _ _)
        · exact h1.trans (h3 _ _)
theorem okR.su {σ : Sg} {k j : Nat} {v : Int32} (h : okR σ) (h3 : k ≠ 3) (h4 : k ≠ 4) (h5 : k ≠ 5) : okR (su σ k j v) := h.eq (eqOn.su (by simp [h3, h4, h5]))
theorem okR.sa {σ : Sg} {k : Nat} {f : Nat → Int32} (h : okR σ) (h3 : k ≠ 3) (h4 : k ≠ 4) (h5 : k ≠ 5) : okR (sa σ k f) := h.eq (eqOn.sa (by simp [h3, h4, h5]))
theorem okR.bk : ∀ (f w : Nat) {σ : Sg}, okR σ → okR (fBk f w σ).2
  | 0, _, _, h => h
  | f + 1, w, σ, h => by
    unfold fBk
    split
    · exact h.u 22 0
    · split
      · exact h.u 22 0
      · split
        · split
          · exact (h.u 22 0).u 22 0
          · split
            · exact ((h.u 22 0).u 22 0).fW
            · split
              · exact ((h.u 22 0).u 22 0).fW
              · split
                · exact okR.bk f _ ((((h.u 22 0).u 22 0).su (by decide) (by decide) (by decide)).su (by decide) (by decide) (by decide))
                · exact ((h.u 22 0).u 22 0).fW
        · exact (h.u 22 0).fW
theorem kp_blk (σ : Sg) (p : Nat) : kp [4, 6, 27, 33, 38] σ (fBlk σ p).2 := by
  have h0 : kp [4, 6, 27, 33, 38] σ (fClr σ 64) := kp.sa (by simp)
  have h1 : kp [4, 6, 27, 33, 38] (fClr σ 64) (fU 22 0 (fClr σ 64)).2 := kp.tk (tk_u 22 0 _) (by simp) (by simp)
  have h3 : ∀ (τ : Sg) (x : Int32), kp [4, 6, 27, 33, 38] τ (fW τ x) := fun τ x => kp.tk (tk_fW τ x) (by simp) (by simp)
  have h4 : ∀ (w : Nat) (τ : Sg), kp [4, 6, 27, 33, 38] τ (fBk 65 w τ).2 := fun w τ => (kp_bk 65 w τ).mono (by simp)
  unfold fBlk
  split
  · exact h0.trans (h4 _ _)
  · split
    · exact h0.trans h1
    · split
      · exact (h0.trans h1).trans (h3 _ _)
      · split
        · exact (((h0.trans h1).trans (kp.su (by simp))).trans (kp.su (by simp))).trans (h4 _ _)
        · exact (h0.trans h1).trans (h3 _ _)
theorem okR.blk {σ : Sg} (p : Nat) (h : okR σ) : okR (fBlk σ p).2 := by
  have h0 : okR (fClr σ 64) := h.sa (by decide) (by decide) (by decide)
  unfold fBlk
  split
  · exact okR.bk _ _ h0
  · split
    · exact h0.u 22 0
    · split
      · exact (h0.u 22 0).fW
      · split
        · exact okR.bk _ _ (((h0.u 22 0).su (by decide) (by decide) (by decide)).su (by decide) (by decide) (by decide))
        · exact (h0.u 22 0).fW
theorem kp_sm (σ : Sg) (A B p x0 y0 : Nat) : kp [9, 38, 39] σ (fSm σ A B p x0 y0) := ((kp.sa (by simp)).trans (kp.sa (by simp))).trans (kp.sa (by simp))
theorem okD.kp {S : List Nat} {σ σ' : Sg} {A B : Nat} (h : okD σ A B) (e : kp S σ σ') (hs : 7 ∉ S ∧ 8 ∉ S) : okD σ' A B := ⟨(e 7 hs.1 0).trans h.1, (e 8 hs.2 0).trans h.2.1, h.2.2⟩
theorem okO.kp {S : List Nat} {σ σ' : Sg} (h : okO σ) (e : kp S σ σ') (hs : 37 ∉ S) : okO σ' := h.eq (fun j => e 37 hs j)
theorem okR.kp {S : List Nat} {σ σ' : Sg} (h : okR σ) (e : kp S σ σ') (hs : 3 ∉ S ∧ 4 ∉ S ∧ 5 ∉ S) : okR σ' := h.eq (e.eqOn (fun k hk => by
  simp at hk
  rcases hk with rfl | rfl | rfl
  · exact hs.1
  · exact hs.2.1
  · exact hs.2.2))
def bP (b : Nat) : Nat := if b < 4 then 0 else b - 3
def bX (c b : Nat) : Nat := if b < 4 then 16 * c + 8 * (b % 2) else 16 * c / 2
def bY (c b : Nat) : Nat := if b < 4 then 16 * c + 8 * (b / 2) else 16 * c / 2
def fBs (σ : Sg) (A B s b : Nat) : Sg := fSm (su (fBlk σ (bP b)).2 26 0 ((fBlk σ (bP b)).2 26 0 + nI 1)) A B (bP b) (bX (s % A) b) (bY (s / A) b)
def fAB (A B s : Nat) (wh : Int32) : Nat → Nat → Sg → Int32 × Sg
  | 0, _, σ => (nI 1, σ)
  | n + 1, b, σ => if wh >>> (nI (5 - b) &&& 31) &&& nI 1 = 0 then fAB A B s wh n (b + 1) σ else if (fBlk σ (bP b)).1 = 0 then (nI 0, (fBlk σ (bP b)).2) else fAB A B s wh n (b + 1) (fBs σ A B s b)
theorem kp_bs (σ : Sg) (A B s b : Nat) : kp [4, 6, 9, 26, 27, 33, 38, 39] σ (fBs σ A B s b) := (((kp_blk σ (bP b)).mono (by simp)).trans (kp.su (by simp))).trans ((kp_sm _ A B _ _ _).mono (by simp))
theorem kp_ab {A B s : Nat} {wh : Int32} : ∀ (n b : Nat) (σ : Sg), kp [4, 6, 9, 26, 27, 33, 38, 39] σ (fAB A B s wh n b σ).2
  | 0, _, σ => kp.refl _ σ
  | n + 1, b, σ => by
    unfold fAB
    split
    · exact kp_ab n _ σ
    · split
      · exact (kp_blk σ _).mono (by simp)
      · exact (kp_bs σ A B s b).trans (kp_ab n _ _)
theorem okR.bs {σ : Sg} {A B s b : Nat} (h : okR σ) : okR (fBs σ A B s b) := ((h.blk _).su (by decide) (by decide) (by decide)).kp (kp_sm _ A B _ _ _) (by decide)
theorem okR.ab {A B s : Nat} {wh : Int32} : ∀ (n b : Nat) {σ : Sg}, okR σ → okR (fAB A B s wh n b σ).2
  | 0, _, _, h => h
  | n + 1, b, σ, h => by
    unfold fAB
    split
    · exact okR.ab n _ h
    · split
      · exact h.blk _
      · exact okR.ab n _ h.bs
theorem bXY {A B s b : Nat} (hA : 1 ≤ A ∧ A ≤ 4) (hs : s < A * B) (hb : b < 6) : bP b < 3 ∧ bX (s % A) b + 8 ≤ wdN A (bP b) ∧ bY (s / A) b + 8 ≤ wdN B (bP b) := by
  have h1 : s % A + 1 ≤ A := Nat.mod_lt s (by omega)
  have h2 : s / A + 1 ≤ B := Nat.div_lt_of_lt_mul hs
  unfold bP bX bY wdN
  split
  · rw [if_pos rfl, if_pos rfl]
    omega
  · rw [if_neg (by omega), if_neg (by omega)]
    omega
theorem g_top {s0 : State} {l : Launch} {M : MI} {hB : Mem} {m pc : Nat} {L : List (Option Value)} {st : List Value} {σ : Sg} {P : Option Value → Sg → Prop} {v w : Int32} (e : v = w) (k : GQ s0 l M hB m pc L (.int w :: st) σ P) : GQ s0 l M hB m pc L (.int v :: st) σ P := e ▸ k
theorem m_ab_l {s0 : State} {l : Launch} {hB : Mem} {m A B s : Nat} {wh : Int32} (hA : 1 ≤ A ∧ A ≤ 4) (hB2 : 1 ≤ B ∧ B ≤ 4) (hs : s < A * B) : ∀ (n b : Nat) (y6 : Option Value) (σ : Sg), b + n = 6 → okD σ A B → okR σ → okO σ → GQ s0 l M_M_allBlocks hB m 24 [some (.ref m), some (.int (nI s)), some (.int wh), some (.int (nI (16 * (s % A)))), some (.int (nI (16 * (s / A)))), some (.int (nI b)), y6] [] σ (fun r σ' => r = some (.int (fAB A B s wh n b σ).1) ∧ σ' = (fAB A B s wh n b σ).2) := by
  have hs4 : s < 16 := Nat.lt_of_lt_of_le hs (Nat.mul_le_mul hA.2 hB2.2)
  have hm1 : s % A < 4 := Nat.lt_of_lt_of_le (Nat.mod_lt s (by omega)) hA.2
  have hm2 : s / A < 16 := Nat.lt_of_le_of_lt (Nat.div_le_self s A) hs4
  intro n
  induction n with
  | zero =>
    intro b y6 σ hb hD hR hO
    have hb6 : b = 6 := by omega
    subst hb6
    unfold fAB
    refine g_iload d_M_allBlocks_24 rfl ?_
    refine g_bipush (v := nI 6) d_M_allBlocks_26 (by decide) ?_
    refine g_icmp_ge (tgt := 138) d_M_allBlocks_28 (by decide) (fun c_28 => ?_) (fun c_28 => ?_)
    · skip
      refine g_iconst (v := nI 1) d_M_allBlocks_138 (by decide) ?_
      refine g_iret d_M_allBlocks_139 rfl rfl ?_
      exact ⟨rfl, rfl⟩
    · exact absurd (nI_le (Nat.le_refl 6) (by decide)) c_28
  | succ n ih =>
    intro b y6 σ hb hD hR hO
    have hq := bXY (b := b) hA hs (by omega)
    unfold fAB
    refine g_iload d_M_allBlocks_24 rfl ?_
    refine g_bipush (v := nI 6) d_M_allBlocks_26 (by decide) ?_
    refine g_icmp_ge (tgt := 138) d_M_allBlocks_28 (by decide) (fun c_28 => ?_) (fun c_28 => ?_)
    · exact absurd ((nI_leI (by omega) (by omega)).mp c_28) (by omega)
    · skip
      refine g_iload_n d_M_allBlocks_31 rfl rfl ?_
      refine g_iconst (v := nI 5) d_M_allBlocks_32 (by decide) ?_
      refine g_iload d_M_allBlocks_33 rfl ?_
      refine g_isubN d_M_allBlocks_35 (by omega) ?_
      refine g_ishr d_M_allBlocks_36 ?_
      refine g_iconst (v := nI 1) d_M_allBlocks_37 (by decide) ?_
      refine g_iand d_M_allBlocks_38 ?_
      refine g_if_ne (tgt := 45) d_M_allBlocks_39 (by decide) (fun c_39 => ?_) (fun c_39 => ?_)
      · skip
        refine g_iload d_M_allBlocks_45 rfl ?_
        refine g_iconst (v := nI 4) d_M_allBlocks_47 (by decide) ?_
        refine g_icmp_ge (tgt := 55) d_M_allBlocks_48 (by decide) (fun c_48 => ?_) (fun c_48 => ?_)
        · skip
          refine g_iload d_M_allBlocks_55 rfl ?_
          refine g_iconst (v := nI 3) d_M_allBlocks_57 (by decide) ?_
          refine g_isubN d_M_allBlocks_58 (by have := (nI_leI (by decide) (by omega)).mp c_48; omega) ?_
          have eP : bP b = b - 3 := by unfold bP; first | rw [if_pos (Nat.lt_of_not_le (fun h9 => c_48 (nI_le h9 (by omega))))] | rw [if_neg (Nat.not_lt.mpr ((nI_leI (by decide) (by omega)).mp c_48))]
          refine g_top (w := nI (bP b)) (by rw [eP]) ?_
          refine g_istore d_M_allBlocks_59 (Nat.le_of_ble_eq_true rfl) ?_
          refine g_aload_n d_M_allBlocks_61 rfl rfl ?_
          refine g_iload d_M_allBlocks_62 rfl ?_
          refine g_calli (As := [_]) d_M_allBlocks_64 lM_154 mv_M_block rfl rfl rfl (Nat.le_of_ble_eq_true rfl) (by decide) (m_block hR hO hq.1) ?_
          refine g_if_ne (tgt := 72) d_M_allBlocks_67 (by decide) (fun c_67 => ?_) (fun c_67 => ?_)
          · skip
            refine g_aload_n d_M_allBlocks_72 rfl rfl ?_
            refine g_dup d_M_allBlocks_73 rfl ?_
            refine g_get d_M_allBlocks_74 fM_157 rfl ?_
            refine g_iconst (v := nI 1) d_M_allBlocks_77 (by decide) ?_
            refine g_iadd d_M_allBlocks_78 ?_
            refine g_put d_M_allBlocks_79 fM_157 rfl rfl rfl rfl ?_
            have hD2 : okD (su (fBlk σ (bP b)).2 26 0 ((fBlk σ (bP b)).2 26 0 + nI 1)) A B := (hD.kp (kp_blk σ (bP b)) (by decide)).kp (kp.su (S := [26]) (by simp)) (by decide)
            refine g_aload_n d_M_allBlocks_82 rfl rfl ?_
            refine g_iload d_M_allBlocks_83 rfl ?_
            refine g_iload d_M_allBlocks_85 rfl ?_
            refine g_iconst (v := nI 4) d_M_allBlocks_87 (by decide) ?_
            refine g_icmp_ge (tgt := 103) d_M_allBlocks_88 (by decide) (fun c_88 => ?_) (fun c_88 => ?_)
            · skip
              refine g_iload_n d_M_allBlocks_103 rfl rfl ?_
              refine g_iconst (v := nI 2) d_M_allBlocks_104 (by decide) ?_
              refine g_idivN d_M_allBlocks_105 ⟨by omega, by decide, by decide⟩ ?_
              have eX : bX (s % A) b = 16 * (s % A) / 2 := by unfold bX; first | rw [if_pos (Nat.lt_of_not_le (fun h9 => c_88 (nI_le h9 (by omega))))] | rw [if_neg (Nat.not_lt.mpr ((nI_leI (by decide) (by omega)).mp c_88))]
              refine g_top (w := nI (bX (s % A) b)) (by rw [eX]) ?_
              refine g_iload d_M_allBlocks_106 rfl ?_
              refine g_iconst (v := nI 4) d_M_allBlocks_108 (by decide) ?_
              refine g_icmp_ge (tgt := 125) d_M_allBlocks_109 (by decide) (fun c_109 => ?_) (fun c_109 => ?_)
              · skip
                refine g_iload d_M_allBlocks_125 rfl ?_
                refine g_iconst (v := nI 2) d_M_allBlocks_127 (by decide) ?_
                refine g_idivN d_M_allBlocks_128 ⟨by omega, by decide, by decide⟩ ?_
                have eY : bY (s / A) b = 16 * (s / A) / 2 := by unfold bY; first | rw [if_pos (Nat.lt_of_not_le (fun h9 => c_109 (nI_le h9 (by omega))))] | rw [if_neg (Nat.not_lt.mpr ((nI_leI (by decide) (by omega)).mp c_109))]
                refine g_top (w := nI (bY (s / A) b)) (by rw [eY]) ?_
                refine g_callv (As := [_, _, _]) d_M_allBlocks_129 lM_160 mv_M_sums rfl rfl rfl (Nat.le_of_ble_eq_true rfl) (by decide) (m_sums hD2 hq.1 hq.2.1 hq.2.2) ?_
                first | refine g_iinc1 d_M_allBlocks_132 rfl ?_ | refine g_iinc d_M_allBlocks_132 rfl ?_
                refine g_goto (tgt := 24) d_M_allBlocks_135 (by decide) ?_
                first
                  | (rw [if_pos c_39]; exact ih (b + 1) _ _ (by omega) hD hR hO)
                  | (rw [if_neg c_39, if_neg c_67]; exact ih (b + 1) _ _ (by omega) (hD.kp (kp_bs σ A B s b) (by decide)) hR.bs (hO.kp (kp_bs σ A B s b) (by decide)))
              · skip
                refine g_iload d_M_allBlocks_112 rfl ?_
                refine g_bipush (v := nI 8) d_M_allBlocks_114 (by decide) ?_
                refine g_iload d_M_allBlocks_116 rfl ?_
                refine g_iconst (v := nI 2) d_M_allBlocks_118 (by decide) ?_
                refine g_idivN d_M_allBlocks_119 ⟨by omega, by decide, by decide⟩ ?_
                refine g_imulN d_M_allBlocks_120  ?_
                refine g_iaddN d_M_allBlocks_121  ?_
                refine g_goto (tgt := 129) d_M_allBlocks_122 (by decide) ?_
                have eY : bY (s / A) b = 16 * (s / A) + 8 * (b / 2) := by unfold bY; first | rw [if_pos (Nat.lt_of_not_le (fun h9 => c_109 (nI_le h9 (by omega))))] | rw [if_neg (Nat.not_lt.mpr ((nI_leI (by decide) (by omega)).mp c_109))]
                refine g_top (w := nI (bY (s / A) b)) (by rw [eY]) ?_
                refine g_callv (As := [_, _, _]) d_M_allBlocks_129 lM_160 mv_M_sums rfl rfl rfl (Nat.le_of_ble_eq_true rfl) (by decide) (m_sums hD2 hq.1 hq.2.1 hq.2.2) ?_
                first | refine g_iinc1 d_M_allBlocks_132 rfl ?_ | refine g_iinc d_M_allBlocks_132 rfl ?_
                refine g_goto (tgt := 24) d_M_allBlocks_135 (by decide) ?_
                first
                  | (rw [if_pos c_39]; exact ih (b + 1) _ _ (by omega) hD hR hO)
                  | (rw [if_neg c_39, if_neg c_67]; exact ih (b + 1) _ _ (by omega) (hD.kp (kp_bs σ A B s b) (by decide)) hR.bs (hO.kp (kp_bs σ A B s b) (by decide)))
            · skip
              refine g_iload_n d_M_allBlocks_91 rfl rfl ?_
              refine g_bipush (v := nI 8) d_M_allBlocks_92 (by decide) ?_
              refine g_iload d_M_allBlocks_94 rfl ?_
              refine g_iconst (v := nI 2) d_M_allBlocks_96 (by decide) ?_
              refine g_iremN d_M_allBlocks_97 ⟨by omega, by decide, by decide⟩ ?_
              refine g_imulN d_M_allBlocks_98  ?_
              refine g_iaddN d_M_allBlocks_99  ?_
              refine g_goto (tgt := 106) d_M_allBlocks_100 (by decide) ?_
              have eX : bX (s % A) b = 16 * (s % A) + 8 * (b % 2) := by unfold bX; first | rw [if_pos (Nat.lt_of_not_le (fun h9 => c_88 (nI_le h9 (by omega))))] | rw [if_neg (Nat.not_lt.mpr ((nI_leI (by decide) (by omega)).mp c_88))]
              refine g_top (w := nI (bX (s % A) b)) (by rw [eX]) ?_
              refine g_iload d_M_allBlocks_106 rfl ?_
              refine g_iconst (v := nI 4) d_M_allBlocks_108 (by decide) ?_
              refine g_icmp_ge (tgt := 125) d_M_allBlocks_109 (by decide) (fun c_109 => ?_) (fun c_109 => ?_)
              · skip
                refine g_iload d_M_allBlocks_125 rfl ?_
                refine g_iconst (v := nI 2) d_M_allBlocks_127 (by decide) ?_
                refine g_idivN d_M_allBlocks_128 ⟨by omega, by decide, by decide⟩ ?_
                have eY : bY (s / A) b = 16 * (s / A) / 2 := by unfold bY; first | rw [if_pos (Nat.lt_of_not_le (fun h9 => c_109 (nI_le h9 (by omega))))] | rw [if_neg (Nat.not_lt.mpr ((nI_leI (by decide) (by omega)).mp c_109))]
                refine g_top (w := nI (bY (s / A) b)) (by rw [eY]) ?_
                refine g_callv (As := [_, _, _]) d_M_allBlocks_129 lM_160 mv_M_sums rfl rfl rfl (Nat.le_of_ble_eq_true rfl) (by decide) (m_sums hD2 hq.1 hq.2.1 hq.2.2) ?_
                first | refine g_iinc1 d_M_allBlocks_132 rfl ?_ | refine g_iinc d_M_allBlocks_132 rfl ?_
                refine g_goto (tgt := 24) d_M_allBlocks_135 (by decide) ?_
                first
                  | (rw [if_pos c_39]; exact ih (b + 1) _ _ (by omega) hD hR hO)
                  | (rw [if_neg c_39, if_neg c_67]; exact ih (b + 1) _ _ (by omega) (hD.kp (kp_bs σ A B s b) (by decide)) hR.bs (hO.kp (kp_bs σ A B s b) (by decide)))
              · skip
                refine g_iload d_M_allBlocks_112 rfl ?_
                refine g_bipush (v := nI 8) d_M_allBlocks_114 (by decide) ?_
                refine g_iload d_M_allBlocks_116 rfl ?_
                refine g_iconst (v := nI 2) d_M_allBlocks_118 (by decide) ?_
                refine g_idivN d_M_allBlocks_119 ⟨by omega, by decide, by decide⟩ ?_
                refine g_imulN d_M_allBlocks_120  ?_
                refine g_iaddN d_M_allBlocks_121  ?_
                refine g_goto (tgt := 129) d_M_allBlocks_122 (by decide) ?_
                have eY : bY (s / A) b = 16 * (s / A) + 8 * (b / 2) := by unfold bY; first | rw [if_pos (Nat.lt_of_not_le (fun h9 => c_109 (nI_le h9 (by omega))))] | rw [if_neg (Nat.not_lt.mpr ((nI_leI (by decide) (by omega)).mp c_109))]
                refine g_top (w := nI (bY (s / A) b)) (by rw [eY]) ?_
                refine g_callv (As := [_, _, _]) d_M_allBlocks_129 lM_160 mv_M_sums rfl rfl rfl (Nat.le_of_ble_eq_true rfl) (by decide) (m_sums hD2 hq.1 hq.2.1 hq.2.2) ?_
                first | refine g_iinc1 d_M_allBlocks_132 rfl ?_ | refine g_iinc d_M_allBlocks_132 rfl ?_
                refine g_goto (tgt := 24) d_M_allBlocks_135 (by decide) ?_
                first
                  | (rw [if_pos c_39]; exact ih (b + 1) _ _ (by omega) hD hR hO)
                  | (rw [if_neg c_39, if_neg c_67]; exact ih (b + 1) _ _ (by omega) (hD.kp (kp_bs σ A B s b) (by decide)) hR.bs (hO.kp (kp_bs σ A B s b) (by decide)))
          · skip
            refine g_iconst (v := nI 0) d_M_allBlocks_70 (by decide) ?_
            refine g_iret d_M_allBlocks_71 rfl rfl ?_
            rw [if_neg c_39, if_pos c_67]
            exact ⟨rfl, rfl⟩
        · skip
          refine g_iconst (v := nI 0) d_M_allBlocks_51 (by decide) ?_
          refine g_goto (tgt := 59) d_M_allBlocks_52 (by decide) ?_
          have eP : bP b = 0 := by unfold bP; first | rw [if_pos (Nat.lt_of_not_le (fun h9 => c_48 (nI_le h9 (by omega))))] | rw [if_neg (Nat.not_lt.mpr ((nI_leI (by decide) (by omega)).mp c_48))]
          refine g_top (w := nI (bP b)) (by rw [eP]) ?_
          refine g_istore d_M_allBlocks_59 (Nat.le_of_ble_eq_true rfl) ?_
          refine g_aload_n d_M_allBlocks_61 rfl rfl ?_
          refine g_iload d_M_allBlocks_62 rfl ?_
          refine g_calli (As := [_]) d_M_allBlocks_64 lM_154 mv_M_block rfl rfl rfl (Nat.le_of_ble_eq_true rfl) (by decide) (m_block hR hO hq.1) ?_
          refine g_if_ne (tgt := 72) d_M_allBlocks_67 (by decide) (fun c_67 => ?_) (fun c_67 => ?_)
          · skip
            refine g_aload_n d_M_allBlocks_72 rfl rfl ?_
            refine g_dup d_M_allBlocks_73 rfl ?_
            refine g_get d_M_allBlocks_74 fM_157 rfl ?_
            refine g_iconst (v := nI 1) d_M_allBlocks_77 (by decide) ?_
            refine g_iadd d_M_allBlocks_78 ?_
            refine g_put d_M_allBlocks_79 fM_157 rfl rfl rfl rfl ?_
            have hD2 : okD (su (fBlk σ (bP b)).2 26 0 ((fBlk σ (bP b)).2 26 0 + nI 1)) A B := (hD.kp (kp_blk σ (bP b)) (by decide)).kp (kp.su (S := [26]) (by simp)) (by decide)
            refine g_aload_n d_M_allBlocks_82 rfl rfl ?_
            refine g_iload d_M_allBlocks_83 rfl ?_
            refine g_iload d_M_allBlocks_85 rfl ?_
            refine g_iconst (v := nI 4) d_M_allBlocks_87 (by decide) ?_
            refine g_icmp_ge (tgt := 103) d_M_allBlocks_88 (by decide) (fun c_88 => ?_) (fun c_88 => ?_)
            · skip
              refine g_iload_n d_M_allBlocks_103 rfl rfl ?_
              refine g_iconst (v := nI 2) d_M_allBlocks_104 (by decide) ?_
              refine g_idivN d_M_allBlocks_105 ⟨by omega, by decide, by decide⟩ ?_
              have eX : bX (s % A) b = 16 * (s % A) / 2 := by unfold bX; first | rw [if_pos (Nat.lt_of_not_le (fun h9 => c_88 (nI_le h9 (by omega))))] | rw [if_neg (Nat.not_lt.mpr ((nI_leI (by decide) (by omega)).mp c_88))]
              refine g_top (w := nI (bX (s % A) b)) (by rw [eX]) ?_
              refine g_iload d_M_allBlocks_106 rfl ?_
              refine g_iconst (v := nI 4) d_M_allBlocks_108 (by decide) ?_
              refine g_icmp_ge (tgt := 125) d_M_allBlocks_109 (by decide) (fun c_109 => ?_) (fun c_109 => ?_)
              · skip
                refine g_iload d_M_allBlocks_125 rfl ?_
                refine g_iconst (v := nI 2) d_M_allBlocks_127 (by decide) ?_
                refine g_idivN d_M_allBlocks_128 ⟨by omega, by decide, by decide⟩ ?_
                have eY : bY (s / A) b = 16 * (s / A) / 2 := by unfold bY; first | rw [if_pos (Nat.lt_of_not_le (fun h9 => c_109 (nI_le h9 (by omega))))] | rw [if_neg (Nat.not_lt.mpr ((nI_leI (by decide) (by omega)).mp c_109))]
                refine g_top (w := nI (bY (s / A) b)) (by rw [eY]) ?_
                refine g_callv (As := [_, _, _]) d_M_allBlocks_129 lM_160 mv_M_sums rfl rfl rfl (Nat.le_of_ble_eq_true rfl) (by decide) (m_sums hD2 hq.1 hq.2.1 hq.2.2) ?_
                first | refine g_iinc1 d_M_allBlocks_132 rfl ?_ | refine g_iinc d_M_allBlocks_132 rfl ?_
                refine g_goto (tgt := 24) d_M_allBlocks_135 (by decide) ?_
                first
                  | (rw [if_pos c_39]; exact ih (b + 1) _ _ (by omega) hD hR hO)
                  | (rw [if_neg c_39, if_neg c_67]; exact ih (b + 1) _ _ (by omega) (hD.kp (kp_bs σ A B s b) (by decide)) hR.bs (hO.kp (kp_bs σ A B s b) (by decide)))
              · skip
                refine g_iload d_M_allBlocks_112 rfl ?_
                refine g_bipush (v := nI 8) d_M_allBlocks_114 (by decide) ?_
                refine g_iload d_M_allBlocks_116 rfl ?_
                refine g_iconst (v := nI 2) d_M_allBlocks_118 (by decide) ?_
                refine g_idivN d_M_allBlocks_119 ⟨by omega, by decide, by decide⟩ ?_
                refine g_imulN d_M_allBlocks_120  ?_
                refine g_iaddN d_M_allBlocks_121  ?_
                refine g_goto (tgt := 129) d_M_allBlocks_122 (by decide) ?_
                have eY : bY (s / A) b = 16 * (s / A) + 8 * (b / 2) := by unfold bY; first | rw [if_pos (Nat.lt_of_not_le (fun h9 => c_109 (nI_le h9 (by omega))))] | rw [if_neg (Nat.not_lt.mpr ((nI_leI (by decide) (by omega)).mp c_109))]
                refine g_top (w := nI (bY (s / A) b)) (by rw [eY]) ?_
                refine g_callv (As := [_, _, _]) d_M_allBlocks_129 lM_160 mv_M_sums rfl rfl rfl (Nat.le_of_ble_eq_true rfl) (by decide) (m_sums hD2 hq.1 hq.2.1 hq.2.2) ?_
                first | refine g_iinc1 d_M_allBlocks_132 rfl ?_ | refine g_iinc d_M_allBlocks_132 rfl ?_
                refine g_goto (tgt := 24) d_M_allBlocks_135 (by decide) ?_
                first
                  | (rw [if_pos c_39]; exact ih (b + 1) _ _ (by omega) hD hR hO)
                  | (rw [if_neg c_39, if_neg c_67]; exact ih (b + 1) _ _ (by omega) (hD.kp (kp_bs σ A B s b) (by decide)) hR.bs (hO.kp (kp_bs σ A B s b) (by decide)))
            · skip
              refine g_iload_n d_M_allBlocks_91 rfl rfl ?_
              refine g_bipush (v := nI 8) d_M_allBlocks_92 (by decide) ?_
              refine g_iload d_M_allBlocks_94 rfl ?_
              refine g_iconst (v := nI 2) d_M_allBlocks_96 (by decide) ?_
              refine g_iremN d_M_allBlocks_97 ⟨by omega, by decide, by decide⟩ ?_
              refine g_imulN d_M_allBlocks_98  ?_
              refine g_iaddN d_M_allBlocks_99  ?_
              refine g_goto (tgt := 106) d_M_allBlocks_100 (by decide) ?_
              have eX : bX (s % A) b = 16 * (s % A) + 8 * (b % 2) := by unfold bX; first | rw [if_pos (Nat.lt_of_not_le (fun h9 => c_88 (nI_le h9 (by omega))))] | rw [if_neg (Nat.not_lt.mpr ((nI_leI (by decide) (by omega)).mp c_88))]
              refine g_top (w := nI (bX (s % A) b)) (by rw [eX]) ?_
              refine g_iload d_M_allBlocks_106 rfl ?_
              refine g_iconst (v := nI 4) d_M_allBlocks_108 (by decide) ?_
              refine g_icmp_ge (tgt := 125) d_M_allBlocks_109 (by decide) (fun c_109 => ?_) (fun c_109 => ?_)
              · skip
                refine g_iload d_M_allBlocks_125 rfl ?_
                refine g_iconst (v := nI 2) d_M_allBlocks_127 (by decide) ?_
                refine g_idivN d_M_allBlocks_128 ⟨by omega, by decide, by decide⟩ ?_
                have eY : bY (s / A) b = 16 * (s / A) / 2 := by unfold bY; first | rw [if_pos (Nat.lt_of_not_le (fun h9 => c_109 (nI_le h9 (by omega))))] | rw [if_neg (Nat.not_lt.mpr ((nI_leI (by decide) (by omega)).mp c_109))]
                refine g_top (w := nI (bY (s / A) b)) (by rw [eY]) ?_
                refine g_callv (As := [_, _, _]) d_M_allBlocks_129 lM_160 mv_M_sums rfl rfl rfl (Nat.le_of_ble_eq_true rfl) (by decide) (m_sums hD2 hq.1 hq.2.1 hq.2.2) ?_
                first | refine g_iinc1 d_M_allBlocks_132 rfl ?_ | refine g_iinc d_M_allBlocks_132 rfl ?_
                refine g_goto (tgt := 24) d_M_allBlocks_135 (by decide) ?_
                first
                  | (rw [if_pos c_39]; exact ih (b + 1) _ _ (by omega) hD hR hO)
                  | (rw [if_neg c_39, if_neg c_67]; exact ih (b + 1) _ _ (by omega) (hD.kp (kp_bs σ A B s b) (by decide)) hR.bs (hO.kp (kp_bs σ A B s b) (by decide)))
              · skip
                refine g_iload d_M_allBlocks_112 rfl ?_
                refine g_bipush (v := nI 8) d_M_allBlocks_114 (by decide) ?_
                refine g_iload d_M_allBlocks_116 rfl ?_
                refine g_iconst (v := nI 2) d_M_allBlocks_118 (by decide) ?_
                refine g_idivN d_M_allBlocks_119 ⟨by omega, by decide, by decide⟩ ?_
                refine g_imulN d_M_allBlocks_120  ?_
                refine g_iaddN d_M_allBlocks_121  ?_
                refine g_goto (tgt := 129) d_M_allBlocks_122 (by decide) ?_
                have eY : bY (s / A) b = 16 * (s / A) + 8 * (b / 2) := by unfold bY; first | rw [if_pos (Nat.lt_of_not_le (fun h9 => c_109 (nI_le h9 (by omega))))] | rw [if_neg (Nat.not_lt.mpr ((nI_leI (by decide) (by omega)).mp c_109))]
                refine g_top (w := nI (bY (s / A) b)) (by rw [eY]) ?_
                refine g_callv (As := [_, _, _]) d_M_allBlocks_129 lM_160 mv_M_sums rfl rfl rfl (Nat.le_of_ble_eq_true rfl) (by decide) (m_sums hD2 hq.1 hq.2.1 hq.2.2) ?_
                first | refine g_iinc1 d_M_allBlocks_132 rfl ?_ | refine g_iinc d_M_allBlocks_132 rfl ?_
                refine g_goto (tgt := 24) d_M_allBlocks_135 (by decide) ?_
                first
                  | (rw [if_pos c_39]; exact ih (b + 1) _ _ (by omega) hD hR hO)
                  | (rw [if_neg c_39, if_neg c_67]; exact ih (b + 1) _ _ (by omega) (hD.kp (kp_bs σ A B s b) (by decide)) hR.bs (hO.kp (kp_bs σ A B s b) (by decide)))
          · skip
            refine g_iconst (v := nI 0) d_M_allBlocks_70 (by decide) ?_
            refine g_iret d_M_allBlocks_71 rfl rfl ?_
            rw [if_neg c_39, if_pos c_67]
            exact ⟨rfl, rfl⟩
      · skip
        refine g_goto (tgt := 132) d_M_allBlocks_42 (by decide) ?_
        first | refine g_iinc1 d_M_allBlocks_132 rfl ?_ | refine g_iinc d_M_allBlocks_132 rfl ?_
        refine g_goto (tgt := 24) d_M_allBlocks_135 (by decide) ?_
        first
          | (rw [if_pos c_39]; exact ih (b + 1) _ _ (by omega) hD hR hO)
          | (rw [if_neg c_39, if_neg c_67]; exact ih (b + 1) _ _ (by omega) (hD.kp (kp_bs σ A B s b) (by decide)) hR.bs (hO.kp (kp_bs σ A B s b) (by decide)))
theorem m_allBlocks {s0 : State} {l : Launch} {m : Nat} {σ : Sg} {A B s : Nat} {wh : Int32} (hD : okD σ A B) (hR : okR σ) (hO : okO σ) (hs : s < A * B) : GC s0 l M_M_allBlocks m [.int (nI s), .int wh] σ (fun r σ' => r = some (.int (fAB A B s wh 6 0 σ).1) ∧ σ' = (fAB A B s wh 6 0 σ).2) := by
  refine g_in (by decide) rfl rfl (Nat.le_of_ble_eq_true rfl) (fun hB => ?_)
  have hA : 1 ≤ A ∧ A ≤ 4 := ⟨hD.2.2.1, hD.2.2.2.1⟩
  have hB2 : 1 ≤ B ∧ B ≤ 4 := ⟨hD.2.2.2.2.1, hD.2.2.2.2.2⟩
  have hs4 : s < 16 := Nat.lt_of_lt_of_le hs (Nat.mul_le_mul hA.2 hB2.2)
  refine g_bipush (v := nI 16) d_M_allBlocks_0 (by decide) ?_
  refine g_iload_n d_M_allBlocks_2 rfl rfl ?_
  refine g_aload_n d_M_allBlocks_3 rfl rfl ?_
  refine g_getE d_M_allBlocks_4 fM_35 rfl hD.1 ?_
  refine g_iremN d_M_allBlocks_7 ⟨by omega, by omega, by omega⟩ ?_
  refine g_imulN d_M_allBlocks_8  ?_
  refine g_istore_n d_M_allBlocks_9 rfl (Nat.le_of_ble_eq_true rfl) ?_
  refine g_bipush (v := nI 16) d_M_allBlocks_10 (by decide) ?_
  refine g_iload_n d_M_allBlocks_12 rfl rfl ?_
  refine g_aload_n d_M_allBlocks_13 rfl rfl ?_
  refine g_getE d_M_allBlocks_14 fM_35 rfl hD.1 ?_
  refine g_idivN d_M_allBlocks_17 ⟨by omega, by omega, by omega⟩ ?_
  refine g_imulN d_M_allBlocks_18  ?_
  refine g_istore d_M_allBlocks_19 (Nat.le_of_ble_eq_true rfl) ?_
  refine g_iconst (v := nI 0) d_M_allBlocks_21 (by decide) ?_
  refine g_istore d_M_allBlocks_22 (Nat.le_of_ble_eq_true rfl) ?_
  exact m_ab_l hA hB2 hs 6 0 none σ (by decide) hD hR hO

def vr (σ : Sg) : Int32 := nI 16 <<< (σ 36 0 &&& 31)
def vwr (r v : Int32) : Int32 := if -r / nI 2 ≤ v then (if v < r / nI 2 then v else v - r) else v + r
def fVc (r : Int32) : Nat → Nat → Sg → Int32 × Sg
  | 0, _, σ => (nI 1, σ)
  | n + 1, k, σ => if 0 ≤ (fU 22 0 σ).2 6 0 then (nI 0, (fU 22 0 σ).2) else
     if sgnU (fU 22 0 σ).1 < -r / nI 2 then (nI 0, fW (fU 22 0 σ).2 (σ 4 0)) else
     if sgnU (fU 22 0 σ).1 < r / nI 2 then fVc r n (k + 1) (su (su (fU 22 0 σ).2 29 k (vwr r (σ 29 k + sgnU (fU 22 0 σ).1))) 28 k (vwr r (σ 29 k + sgnU (fU 22 0 σ).1)))
     else (nI 0, fW (fU 22 0 σ).2 (σ 4 0))
theorem kp_vc {r : Int32} : ∀ (n k : Nat) (σ : Sg), kp [4, 6, 28, 29] σ (fVc r n k σ).2
  | 0, _, σ => kp.refl _ σ
  | n + 1, k, σ => by
    have h1 : kp [4, 6, 28, 29] σ (fU 22 0 σ).2 := kp.tk (tk_u 22 0 σ) (by simp) (by simp)
    have h3 : ∀ (τ : Sg) (x : Int32), kp [4, 6, 28, 29] τ (fW τ x) := fun τ x => kp.tk (tk_fW τ x) (by simp) (by simp)
    unfold fVc
    split
    · exact h1
    · split
      · exact h1.trans (h3 _ _)
      · split
        · exact ((h1.trans (kp.su (by simp))).trans (kp.su (by simp))).trans (kp_vc n _ _)
        · exact h1.trans (h3 _ _)
theorem okR.vc {r : Int32} : ∀ (n k : Nat) {σ : Sg}, okR σ → okR (fVc r n k σ).2
  | 0, _, _, h => h
  | n + 1, k, σ, h => by
    unfold fVc
    split
    · exact h.u 22 0
    · split
      · exact (h.u 22 0).fW
      · split
        · exact okR.vc n _ (((h.u 22 0).su (by decide) (by decide) (by decide)).su (by decide) (by decide) (by decide))
        · exact (h.u 22 0).fW
theorem m_vc_l {s0 : State} {l : Launch} {hB : Mem} {m w : Nat} {r : Int32} (hw : w < 2) : ∀ (n k : Nat) (y4 y5 y6 : Option Value) (σ : Sg), k + n = 2 * w + 2 → 2 * w ≤ k → okR σ → GQ s0 l M_M_vector hB m 12 [some (.ref m), some (.int (nI w)), some (.int r), some (.int (nI k)), y4, y5, y6] [] σ (fun r1 σ' => r1 = some (.int (fVc r n k σ).1) ∧ σ' = (fVc r n k σ).2) := by
  intro n
  induction n with
  | zero =>
    intro k y4 y5 y6 σ hk hk2 hR
    unfold fVc
    refine g_iload_n d_M_vector_12 rfl rfl ?_
    refine g_iconst (v := nI 2) d_M_vector_13 (by decide) ?_
    refine g_iload_n d_M_vector_14 rfl rfl ?_
    refine g_imulN d_M_vector_15  ?_
    refine g_iconst (v := nI 2) d_M_vector_16 (by decide) ?_
    refine g_iaddN d_M_vector_17  ?_
    refine g_icmp_ge (tgt := 136) d_M_vector_18 (by decide) (fun c_18 => ?_) (fun c_18 => ?_)
    · skip
      refine g_iconst (v := nI 1) d_M_vector_136 (by decide) ?_
      refine g_iret d_M_vector_137 rfl rfl ?_
      exact ⟨rfl, rfl⟩
    · exact absurd (nI_le (by omega) (by omega)) c_18
  | succ n ih =>
    intro k y4 y5 y6 σ hk hk2 hR
    unfold fVc
    refine g_iload_n d_M_vector_12 rfl rfl ?_
    refine g_iconst (v := nI 2) d_M_vector_13 (by decide) ?_
    refine g_iload_n d_M_vector_14 rfl rfl ?_
    refine g_imulN d_M_vector_15  ?_
    refine g_iconst (v := nI 2) d_M_vector_16 (by decide) ?_
    refine g_iaddN d_M_vector_17  ?_
    refine g_icmp_ge (tgt := 136) d_M_vector_18 (by decide) (fun c_18 => ?_) (fun c_18 => ?_)
    · exact absurd ((nI_leI (by omega) (by omega)).mp c_18) (by omega)
    · skip
      refine g_aload_n d_M_vector_21 rfl rfl ?_
      refine g_get d_M_vector_22 fM_10 rfl ?_
      refine g_istore d_M_vector_25 (Nat.le_of_ble_eq_true rfl) ?_
      refine g_aload_n d_M_vector_27 rfl rfl ?_
      refine g_calli (As := []) d_M_vector_28 lM_145 mv_M_readS rfl rfl rfl (Nat.le_of_ble_eq_true rfl) (by decide) (m_readS hR.1) ?_
      refine g_istore d_M_vector_31 (Nat.le_of_ble_eq_true rfl) ?_
      refine g_aload_n d_M_vector_33 rfl rfl ?_
      refine g_get d_M_vector_34 fM_7 rfl ?_
      refine g_if_ge (tgt := 66) d_M_vector_37 (by decide) (fun c_37 => ?_) (fun c_37 => ?_)
      · skip
        refine g_iconst (v := nI 0) d_M_vector_66 (by decide) ?_
        refine g_iret d_M_vector_67 rfl rfl ?_
        first
          | (rw [if_pos c_37]; exact ⟨rfl, rfl⟩)
          | (rw [if_neg c_37, if_pos c_46]; exact ⟨rfl, rfl⟩)
          | (rw [if_neg c_37, if_neg c_46, if_neg c_54]; exact ⟨rfl, rfl⟩)
      · skip
        refine g_iload d_M_vector_40 rfl ?_
        refine g_iload_n d_M_vector_42 rfl rfl ?_
        refine g_ineg d_M_vector_43 ?_
        refine g_iconst (v := nI 2) d_M_vector_44 (by decide) ?_
        refine g_idiv d_M_vector_45 (by decide) ?_
        refine g_icmp_lt (tgt := 57) d_M_vector_46 (by decide) (fun c_46 => ?_) (fun c_46 => ?_)
        · skip
          refine g_aload_n d_M_vector_57 rfl rfl ?_
          refine g_iload d_M_vector_58 rfl ?_
          refine g_calli (As := [_]) d_M_vector_60 lM_16 mv_M_isWrong rfl rfl rfl (Nat.le_of_ble_eq_true rfl) (by decide) (m_isWrong) ?_
          refine g_if_eq (tgt := 68) d_M_vector_63 (by decide) (fun c_63 => ?_) (fun c_63 => ?_)
          · exact absurd c_63 (by decide)
          · skip
            refine g_iconst (v := nI 0) d_M_vector_66 (by decide) ?_
            refine g_iret d_M_vector_67 rfl rfl ?_
            first
              | (rw [if_pos c_37]; exact ⟨rfl, rfl⟩)
              | (rw [if_neg c_37, if_pos c_46]; exact ⟨rfl, rfl⟩)
              | (rw [if_neg c_37, if_neg c_46, if_neg c_54]; exact ⟨rfl, rfl⟩)
        · skip
          refine g_iload d_M_vector_49 rfl ?_
          refine g_iload_n d_M_vector_51 rfl rfl ?_
          refine g_iconst (v := nI 2) d_M_vector_52 (by decide) ?_
          refine g_idiv d_M_vector_53 (by decide) ?_
          refine g_icmp_lt (tgt := 68) d_M_vector_54 (by decide) (fun c_54 => ?_) (fun c_54 => ?_)
          · skip
            have e29 : ∀ j, (fU 22 0 σ).2 29 j = σ 29 j := tk_u 22 0 σ 29 (by decide) (by decide)
            refine g_aload_n d_M_vector_68 rfl rfl ?_
            refine g_getA d_M_vector_69 fM_111 (by decide) ?_
            refine g_iload_n d_M_vector_72 rfl rfl ?_
            refine g_iaload (k := 29) d_M_vector_73 rfl (by decide) (by decide) rfl (vp_in_nI (by show k < 4; omega) (by decide)) ?_
            rw [nI_clamp (show k < 2 ^ 31 by omega), e29]
            refine g_iload d_M_vector_74 rfl ?_
            refine g_iadd d_M_vector_76 ?_
            refine g_istore d_M_vector_77 (Nat.le_of_ble_eq_true rfl) ?_
            refine g_iload d_M_vector_79 rfl ?_
            refine g_iload_n d_M_vector_81 rfl rfl ?_
            refine g_ineg d_M_vector_82 ?_
            refine g_iconst (v := nI 2) d_M_vector_83 (by decide) ?_
            refine g_idiv d_M_vector_84 (by decide) ?_
            refine g_icmp_ge (tgt := 95) d_M_vector_85 (by decide) (fun c_85 => ?_) (fun c_85 => ?_)
            · skip
              refine g_iload d_M_vector_95 rfl ?_
              refine g_iload_n d_M_vector_97 rfl rfl ?_
              refine g_iconst (v := nI 2) d_M_vector_98 (by decide) ?_
              refine g_idiv d_M_vector_99 (by decide) ?_
              refine g_icmp_lt (tgt := 110) d_M_vector_100 (by decide) (fun c_100 => ?_) (fun c_100 => ?_)
              · skip
                refine g_iload d_M_vector_110 rfl ?_
                have ev : vwr r (σ 29 k + sgnU (fU 22 0 σ).1) = σ 29 k + sgnU (fU 22 0 σ).1 := by unfold vwr; first | rw [if_neg c_85] | rw [if_pos c_85, if_pos c_100] | rw [if_pos c_85, if_neg c_100]
                refine g_top ev.symm ?_
                refine g_istore d_M_vector_112 (Nat.le_of_ble_eq_true rfl) ?_
                refine g_aload_n d_M_vector_114 rfl rfl ?_
                refine g_getA d_M_vector_115 fM_111 (by decide) ?_
                refine g_iload_n d_M_vector_118 rfl rfl ?_
                refine g_iload d_M_vector_119 rfl ?_
                refine g_iastore (k := 29) d_M_vector_121 rfl (by decide) (by decide) rfl (vp_in_nI (by show k < 4; omega) (by decide)) ?_
                refine g_aload_n d_M_vector_122 rfl rfl ?_
                refine g_getA d_M_vector_123 fM_64 (by decide) ?_
                refine g_iload_n d_M_vector_126 rfl rfl ?_
                refine g_iload d_M_vector_127 rfl ?_
                refine g_iastore (k := 28) d_M_vector_129 rfl (by decide) (by decide) rfl (vp_in_nI (by show k < 4; omega) (by decide)) ?_
                first | refine g_iinc1 d_M_vector_130 rfl ?_ | refine g_iinc d_M_vector_130 rfl ?_
                refine g_goto (tgt := 12) d_M_vector_133 (by decide) ?_
                rw [if_neg c_37, if_neg c_46, if_pos c_54, nI_clamp (show k < 2 ^ 31 by omega)]
                exact ih (k + 1) _ _ _ _ (by omega) (by omega) (((hR.u 22 0).su (by decide) (by decide) (by decide)).su (by decide) (by decide) (by decide))
              · skip
                refine g_iload d_M_vector_103 rfl ?_
                refine g_iload_n d_M_vector_105 rfl rfl ?_
                refine g_isub d_M_vector_106 ?_
                refine g_goto (tgt := 112) d_M_vector_107 (by decide) ?_
                have ev : vwr r (σ 29 k + sgnU (fU 22 0 σ).1) = σ 29 k + sgnU (fU 22 0 σ).1 - r := by unfold vwr; first | rw [if_neg c_85] | rw [if_pos c_85, if_pos c_100] | rw [if_pos c_85, if_neg c_100]
                refine g_top ev.symm ?_
                refine g_istore d_M_vector_112 (Nat.le_of_ble_eq_true rfl) ?_
                refine g_aload_n d_M_vector_114 rfl rfl ?_
                refine g_getA d_M_vector_115 fM_111 (by decide) ?_
                refine g_iload_n d_M_vector_118 rfl rfl ?_
                refine g_iload d_M_vector_119 rfl ?_
                refine g_iastore (k := 29) d_M_vector_121 rfl (by decide) (by decide) rfl (vp_in_nI (by show k < 4; omega) (by decide)) ?_
                refine g_aload_n d_M_vector_122 rfl rfl ?_
                refine g_getA d_M_vector_123 fM_64 (by decide) ?_
                refine g_iload_n d_M_vector_126 rfl rfl ?_
                refine g_iload d_M_vector_127 rfl ?_
                refine g_iastore (k := 28) d_M_vector_129 rfl (by decide) (by decide) rfl (vp_in_nI (by show k < 4; omega) (by decide)) ?_
                first | refine g_iinc1 d_M_vector_130 rfl ?_ | refine g_iinc d_M_vector_130 rfl ?_
                refine g_goto (tgt := 12) d_M_vector_133 (by decide) ?_
                rw [if_neg c_37, if_neg c_46, if_pos c_54, nI_clamp (show k < 2 ^ 31 by omega)]
                exact ih (k + 1) _ _ _ _ (by omega) (by omega) (((hR.u 22 0).su (by decide) (by decide) (by decide)).su (by decide) (by decide) (by decide))
            · skip
              refine g_iload d_M_vector_88 rfl ?_
              refine g_iload_n d_M_vector_90 rfl rfl ?_
              refine g_iadd d_M_vector_91 ?_
              refine g_goto (tgt := 112) d_M_vector_92 (by decide) ?_
              have ev : vwr r (σ 29 k + sgnU (fU 22 0 σ).1) = σ 29 k + sgnU (fU 22 0 σ).1 + r := by unfold vwr; first | rw [if_neg c_85] | rw [if_pos c_85, if_pos c_100] | rw [if_pos c_85, if_neg c_100]
              refine g_top ev.symm ?_
              refine g_istore d_M_vector_112 (Nat.le_of_ble_eq_true rfl) ?_
              refine g_aload_n d_M_vector_114 rfl rfl ?_
              refine g_getA d_M_vector_115 fM_111 (by decide) ?_
              refine g_iload_n d_M_vector_118 rfl rfl ?_
              refine g_iload d_M_vector_119 rfl ?_
              refine g_iastore (k := 29) d_M_vector_121 rfl (by decide) (by decide) rfl (vp_in_nI (by show k < 4; omega) (by decide)) ?_
              refine g_aload_n d_M_vector_122 rfl rfl ?_
              refine g_getA d_M_vector_123 fM_64 (by decide) ?_
              refine g_iload_n d_M_vector_126 rfl rfl ?_
              refine g_iload d_M_vector_127 rfl ?_
              refine g_iastore (k := 28) d_M_vector_129 rfl (by decide) (by decide) rfl (vp_in_nI (by show k < 4; omega) (by decide)) ?_
              first | refine g_iinc1 d_M_vector_130 rfl ?_ | refine g_iinc d_M_vector_130 rfl ?_
              refine g_goto (tgt := 12) d_M_vector_133 (by decide) ?_
              rw [if_neg c_37, if_neg c_46, if_pos c_54, nI_clamp (show k < 2 ^ 31 by omega)]
              exact ih (k + 1) _ _ _ _ (by omega) (by omega) (((hR.u 22 0).su (by decide) (by decide) (by decide)).su (by decide) (by decide) (by decide))
          · skip
            refine g_aload_n d_M_vector_57 rfl rfl ?_
            refine g_iload d_M_vector_58 rfl ?_
            refine g_calli (As := [_]) d_M_vector_60 lM_16 mv_M_isWrong rfl rfl rfl (Nat.le_of_ble_eq_true rfl) (by decide) (m_isWrong) ?_
            refine g_if_eq (tgt := 68) d_M_vector_63 (by decide) (fun c_63 => ?_) (fun c_63 => ?_)
            · exact absurd c_63 (by decide)
            · skip
              refine g_iconst (v := nI 0) d_M_vector_66 (by decide) ?_
              refine g_iret d_M_vector_67 rfl rfl ?_
              first
                | (rw [if_pos c_37]; exact ⟨rfl, rfl⟩)
                | (rw [if_neg c_37, if_pos c_46]; exact ⟨rfl, rfl⟩)
                | (rw [if_neg c_37, if_neg c_46, if_neg c_54]; exact ⟨rfl, rfl⟩)
theorem m_vector {s0 : State} {l : Launch} {m : Nat} {σ : Sg} {w : Nat} (hR : okR σ) (hw : w < 2) : GC s0 l M_M_vector m [.int (nI w)] σ (fun r σ' => r = some (.int (fVc (vr σ) 2 (2 * w) σ).1) ∧ σ' = (fVc (vr σ) 2 (2 * w) σ).2) := by
  refine g_in (by decide) rfl rfl (Nat.le_of_ble_eq_true rfl) (fun hB => ?_)
  refine g_bipush (v := nI 16) d_M_vector_0 (by decide) ?_
  refine g_aload_n d_M_vector_2 rfl rfl ?_
  refine g_get d_M_vector_3 fM_164 rfl ?_
  refine g_ishl d_M_vector_6 ?_
  refine g_istore_n d_M_vector_7 rfl (Nat.le_of_ble_eq_true rfl) ?_
  refine g_iconst (v := nI 2) d_M_vector_8 (by decide) ?_
  refine g_iload_n d_M_vector_9 rfl rfl ?_
  refine g_imulN d_M_vector_10  ?_
  refine g_istore_n d_M_vector_11 rfl (Nat.le_of_ble_eq_true rfl) ?_
  exact m_vc_l hw 2 (2 * w) none none none σ (by omega) (by omega) hR

