/-! ===== what reading keeps; block ===== -/
def tk (σ σ' : Sg) : Prop := ∀ k, k ≠ 4 → k ≠ 6 → ∀ j, σ' k j = σ k j
theorem tk.refl (σ : Sg) : tk σ σ := fun _ _ _ _ => rfl
theorem tk.trans {a b c : Sg} (h : tk a b) (h' : tk b c) : tk a c := fun k h4 h6 j => (h' k h4 h6 j).trans (h k h4 h6 j)
theorem tk_fW (σ : Sg) (p : Int32) : tk σ (fW σ p) := fun k h4 h6 j => by
  unfold fW
  split
  · rfl
  · exact su_k h6
theorem tk_bit (σ : Sg) : tk σ (fBit σ).2 := by
  unfold fBit
  split
  · exact tk.refl σ
  · split
    · exact tk_fW _ _
    · exact fun k h4 h6 j => su_k h4
theorem tk_num : ∀ (n : Nat) (v : Int32) (σ : Sg), tk σ (fNum n v σ).2
  | 0, _, σ => tk.refl σ
  | n + 1, v, σ => (tk_bit σ).trans (tk_num n _ _)
theorem tk_na (n : Nat) (σ : Sg) : tk σ (fNA n σ).2 := by
  unfold fNA
  split
  · exact tk_num n 0 σ
  · split
    · exact (tk_num n 0 σ).trans (tk_fW _ _)
    · exact tk_num n 0 σ
theorem tk_ut (z : Nat) (σ : Sg) : tk σ (fUt z σ).2 := by
  unfold fUt
  split
  · exact tk.refl σ
  · exact tk_num z 0 σ
theorem tk_u : ∀ (f z : Nat) (σ : Sg), tk σ (fU f z σ).2
  | 0, _, σ => tk.refl σ
  | f + 1, z, σ => by
    unfold fU
    split
    · exact tk_ut z σ
    · split
      · split
        · exact tk_bit σ
        · split
          · exact ((tk_bit σ).trans (tk_fW _ _)).trans (tk_u f _ _)
          · exact (tk_bit σ).trans (tk_u f _ _)
      · exact (tk_bit σ).trans (tk_ut z _)
theorem tk_al : ∀ (f : Nat) (σ : Sg), tk σ (fAl f σ)
  | 0, σ => tk.refl σ
  | f + 1, σ => by
    unfold fAl
    split
    · exact tk.refl σ
    · split
      · exact tk.refl σ
      · refine tk.trans ?_ (tk_al f _)
        split
        · exact (tk_bit σ).trans (tk_fW _ _)
        · exact tk_bit σ
theorem tk_if {one two : Int32} : ∀ (n : Nat) (a b : Int32) (σ : Sg), tk σ (fIF one two n a b σ).2
  | 0, _, _, σ => tk.refl σ
  | n + 1, a, b, σ => by
    unfold fIF
    split
    · exact tk.refl σ
    · split
      · exact tk_bit σ
      · split
        · split
          · exact ((tk_bit σ).trans (tk_fW _ _)).trans (tk_if n _ _ _)
          · exact (tk_bit σ).trans (tk_if n _ _ _)
        · exact (tk_bit σ).trans (tk_if n _ _ _)
theorem tk.eqOn {S : List Nat} {σ σ' : Sg} (h : tk σ σ') (h4 : 4 ∉ S) (h6 : 6 ∉ S) : eqOn S σ σ' := fun k hk j => h k (fun e => h4 (e ▸ hk)) (fun e => h6 (e ▸ hk)) j
theorem okD.tk {σ σ' : Sg} {A B : Nat} (h : okD σ A B) (e : tk σ σ') : okD σ' A B := h.eq (e.eqOn (by decide) (by decide))
/-- the reading place, and bits that are 0 or 1 -/
def okR (σ : Sg) : Prop := okA σ ∧ ∀ j, j < 32000 → σ 3 j = nI 0 ∨ σ 3 j = nI 1
theorem okR.up {σ σ' : Sg} (h : okR σ) (e : tk σ σ') (a : okA σ') : okR σ' := ⟨a, fun j hj => by rw [e 3 (by decide) (by decide)]; exact h.2 j hj⟩
theorem okR.bit {σ : Sg} (h : okR σ) : okR (fBit σ).2 := h.up (tk_bit σ) h.1.bit
theorem okR.fW {σ : Sg} {p : Int32} (h : okR σ) : okR (fW σ p) := h.up (tk_fW σ p) h.1.fW
theorem okR.num {σ : Sg} (n : Nat) (v : Int32) (h : okR σ) : okR (fNum n v σ).2 := h.up (tk_num n v σ) (okA.num n v h.1)
theorem okR.na {σ : Sg} {n : Nat} (h : okR σ) : okR (fNA n σ).2 := h.up (tk_na n σ) h.1.na
theorem okR.u {σ : Sg} (f z : Nat) (h : okR σ) : okR (fU f z σ).2 := h.up (tk_u f z σ) (okA.u f z h.1)
theorem okR.al {σ : Sg} (f : Nat) (h : okR σ) : okR (fAl f σ) := h.up (tk_al f σ) (okA.al f h.1)
theorem okR.if1 {σ : Sg} {one two : Int32} (n : Nat) (a b : Int32) (h : okR σ) : okR (fIF one two n a b σ).2 := h.up (tk_if n a b σ) (okA.if1 n a b h.1)
theorem okA.eq {σ σ' : Sg} (h : okA σ) (e : eqOn [4, 5] σ σ') : okA σ' := by
  obtain ⟨p, q, h1, h2, h3⟩ := h
  exact ⟨p, q, (e 4 (by decide) 0).trans h1, (e 5 (by decide) 0).trans h2, h3⟩
theorem okR.eq {σ σ' : Sg} (h : okR σ) (e : eqOn [3, 4, 5] σ σ') : okR σ' := ⟨h.1.eq (e.mono (by simp)), fun j hj => by rw [e 3 (by decide)]; exact h.2 j hj⟩
theorem bit_rng {σ : Sg} (h : okR σ) : (fBit σ).1 = nI 0 ∨ (fBit σ).1 = nI 1 := by
  unfold fBit
  split
  · exact Or.inl rfl
  · split
    · exact Or.inl rfl
    · rename_i h1 h2
      obtain ⟨p, e, a1, a2, a3, a4⟩ := h.1
      have hne : p ≠ e := fun z => h2 (by rw [a1, a2, z])
      rw [a1, nI_clamp (by omega)]
      exact h.2 p (by omega)
theorem num_rng : ∀ (n a : Nat) {σ : Sg}, okR σ → ∃ b, (fNum n (nI a) σ).1 = nI b ∧ a * 2 ^ n ≤ b ∧ b < (a + 1) * 2 ^ n
  | 0, a, σ, h => ⟨a, rfl, by omega, by omega⟩
  | n + 1, a, σ, h => by
    unfold fNum
    have e2 : (2 : Int32) = nI 2 := rfl
    have hp : 2 ^ (n + 1) = 2 * 2 ^ n := by rw [Nat.pow_succ, Nat.mul_comm]
    rcases bit_rng h with e | e
    · rw [e, e2, pk_mul, nI_add]
      obtain ⟨b, b1, b2, b3⟩ := num_rng n (2 * a + 0) h.bit
      refine ⟨b, b1, ?_, ?_⟩
      · rw [hp, ← Nat.mul_assoc, Nat.mul_comm a 2]; exact b2
      · refine Nat.lt_of_lt_of_le b3 ?_
        rw [hp, ← Nat.mul_assoc]
        exact Nat.mul_le_mul_right _ (by omega)
    · rw [e, e2, pk_mul, nI_add]
      obtain ⟨b, b1, b2, b3⟩ := num_rng n (2 * a + 1) h.bit
      refine ⟨b, b1, ?_, ?_⟩
      · refine Nat.le_trans ?_ b2
        rw [hp, ← Nat.mul_assoc]
        exact Nat.mul_le_mul_right _ (by omega)
      · refine Nat.lt_of_lt_of_le b3 ?_
        rw [hp, ← Nat.mul_assoc]
        exact Nat.mul_le_mul_right _ (by omega)
theorem shl1 : ∀ z, z < 22 → nI 1 <<< (nI z &&& 31) = nI (2 ^ z) := by decide +kernel
theorem ut_rng {z : Nat} {σ : Sg} (hz : z < 22) (h : okR σ) : ∃ b, (fUt z σ).1 = nI b ∧ b < 2 ^ 22 := by
  unfold fUt
  split
  · exact ⟨0, rfl, by decide⟩
  · obtain ⟨b, b1, b2, b3⟩ := num_rng z 0 h
    have h1 : 1 ≤ 2 ^ z := Nat.one_le_two_pow
    have h2 : 2 ^ z ≤ 2 ^ 21 := Nat.pow_le_pow_right (by decide) (by omega)
    refine ⟨2 ^ z - 1 + b, ?_, ?_⟩
    · have e0 : (0 : Int32) = nI 0 := rfl
      rw [shl1 z hz, pk_sub h1]
      show nI (2 ^ z - 1) + (fNum z (0 : Int32) σ).1 = _
      rw [e0, b1, nI_add]
    · rw [Nat.zero_add, Nat.one_mul] at b3
      omega
theorem u_rng : ∀ (f z : Nat) {σ : Sg}, z + f ≤ 22 → okR σ → ∃ b, (fU f z σ).1 = nI b ∧ b < 2 ^ 22
  | 0, z, σ, _, h => ⟨0, rfl, by decide⟩
  | f + 1, z, σ, hz, h => by
    unfold fU
    split
    · exact ut_rng (by omega) h
    · split
      · split
        · exact ⟨0, rfl, by decide⟩
        · split
          · exact u_rng f (z + 1) (by omega) h.bit.fW
          · exact u_rng f (z + 1) (by omega) h.bit
      · exact ut_rng (by omega) h.bit
def zzT (j : Nat) : Nat := ([0, 1, 8, 16, 9, 2, 3, 10, 17, 24, 32, 25, 18, 11, 4, 5, 12, 19, 26, 33, 40, 48, 41, 34, 27, 20, 13, 6, 7, 14, 21, 28, 35, 42, 49, 56, 57, 50, 43, 36, 29, 22, 15, 23, 30, 37, 44, 51, 58, 59, 52, 45, 38, 31, 39, 46, 53, 60, 61, 54, 47, 55, 62, 63] : List Nat).getD j 0
theorem zz_lt : ∀ j, j < 64 → zzT j < 64 := by decide +kernel
def okO (σ : Sg) : Prop := ∀ j, j < 64 → σ 37 j = nI (zzT j)
theorem okO.eq {σ σ' : Sg} (h : okO σ) (e : ∀ j, σ' 37 j = σ 37 j) : okO σ' := fun j hj => (e j).trans (h j hj)
def fClr (σ : Sg) (n : Nat) : Sg := sa σ 38 (fun j => if j < n then nI 0 else σ 38 j)
def bdLv (lv : Int32) : Prop := lv = 0 ∨ nI 2047 < lv ∨ lv < -2047
def fBk : Nat → Nat → Sg → Int32 × Sg
  | 0, _, σ => (nI 0, σ)
  | f + 1, w, σ =>
    if 0 ≤ (fU 22 0 σ).2 6 0 then (nI 0, (fU 22 0 σ).2) else
    if (fU 22 0 σ).1 = 0 then (nI 1, (fU 22 0 σ).2) else
    if nI w + ((fU 22 0 σ).1 - nI 1) ≤ nI 63 then
      (if 0 ≤ (fU 22 0 (fU 22 0 σ).2).2 6 0 then (nI 0, (fU 22 0 (fU 22 0 σ).2).2) else
       if sgnU (fU 22 0 (fU 22 0 σ).2).1 = 0 then (nI 0, fW (fU 22 0 (fU 22 0 σ).2).2 ((fU 22 0 σ).2 4 0)) else
       if nI 2047 < sgnU (fU 22 0 (fU 22 0 σ).2).1 then (nI 0, fW (fU 22 0 (fU 22 0 σ).2).2 ((fU 22 0 σ).2 4 0)) else
       if -2047 ≤ sgnU (fU 22 0 (fU 22 0 σ).2).1 then
         fBk f ((nI w + ((fU 22 0 σ).1 - nI 1)).toNatClampNeg + 1) (su (su (fU 22 0 (fU 22 0 σ).2).2 38 (zzT (nI w + ((fU 22 0 σ).1 - nI 1)).toNatClampNeg) (fFac (fU 22 0 (fU 22 0 σ).2).2 (zzT (nI w + ((fU 22 0 σ).1 - nI 1)).toNatClampNeg) (sgnU (fU 22 0 (fU 22 0 σ).2).1))) 27 0 ((fU 22 0 (fU 22 0 σ).2).2 27 0 + nI 1))
       else (nI 0, fW (fU 22 0 (fU 22 0 σ).2).2 ((fU 22 0 σ).2 4 0)))
    else (nI 0, fW (fU 22 0 σ).2 (σ 4 0))
def fBlk (σ : Sg) (p : Nat) : Int32 × Sg :=
  if σ 32 0 = 0 then fBk 65 0 (fClr σ 64) else
  if 0 ≤ (fU 22 0 (fClr σ 64)).2 6 0 then (nI 0, (fU 22 0 (fClr σ 64)).2) else
  if σ 33 p + sgnU (fU 22 0 (fClr σ 64)).1 < 0 then (nI 0, fW (fU 22 0 (fClr σ 64)).2 (σ 4 0)) else
  if σ 33 p + sgnU (fU 22 0 (fClr σ 64)).1 ≤ nI 255 then
    fBk 65 1 (su (su (fU 22 0 (fClr σ 64)).2 33 p (σ 33 p + sgnU (fU 22 0 (fClr σ 64)).1)) 38 0 (nI 8 * (σ 33 p + sgnU (fU 22 0 (fClr σ 64)).1)))
  else (nI 0, fW (fU 22 0 (fClr σ 64)).2 (σ 4 0))
theorem fClr_0 {σ : Sg} : fClr σ 0 = σ := sa_self (fun j => by rw [if_neg (by omega)])
theorem fClr_s {σ : Sg} {n : Nat} : su (fClr σ n) 38 n (nI 0) = fClr σ (n + 1) := su_sa (fun j => by
  by_cases e : j = n
  · rw [if_pos (by omega), if_pos e]
  · rw [if_neg e]
    by_cases e2 : j < n
    · rw [if_pos e2, if_pos (by omega)]
    · rw [if_neg e2, if_neg (by omega)])
theorem wk {w : Nat} {σ : Sg} (h : okR σ) (hw : w ≤ 64) (h0 : ¬ (fU 22 0 σ).1 = 0) (h1 : nI w + ((fU 22 0 σ).1 - nI 1) ≤ nI 63) : ∃ v, nI w + ((fU 22 0 σ).1 - nI 1) = nI v ∧ w ≤ v ∧ v < 64 := by
  obtain ⟨b, b1, b2⟩ := u_rng 22 0 (by decide) h
  rw [b1] at h0 h1 ⊢
  have hb : b ≠ 0 := fun e => h0 (by rw [e]; rfl)
  rw [pk_sub (by omega), nI_add] at h1 ⊢
  exact ⟨w + (b - 1), rfl, by omega, Nat.lt_succ_of_le ((nI_leI (by omega) (by decide)).mp h1)⟩
theorem m_block_l {s0 : State} {l : Launch} {hB : Mem} {m : Nat} {p : Int32} : ∀ (f w : Nat) (y3 y4 y5 : Option Value) (σ : Sg), okR σ → okO σ → w + f ≥ 65 → w ≤ 64 → GQ s0 l M_M_block hB m 99 [some (.ref m), some (.int p), some (.int (nI w)), y3, y4, y5] [] σ (fun r σ' => r = some (.int (fBk f w σ).1) ∧ σ' = (fBk f w σ).2) := by
  intro f
  induction f with
  | zero => intro w y3 y4 y5 σ hR hO hf hw; omega
  | succ f ih =>
    intro w y3 y4 y5 σ hR hO hf hw
    unfold fBk
    refine g_aload_n d_M_block_99 rfl rfl ?_
    refine g_get d_M_block_100 fM_10 rfl ?_
    refine g_istore_n d_M_block_103 rfl (Nat.le_of_ble_eq_true rfl) ?_
    refine g_aload_n d_M_block_104 rfl rfl ?_
    refine g_calli (As := []) d_M_block_105 lM_32 mv_M_readU rfl rfl rfl (Nat.le_of_ble_eq_true rfl) (by decide) (m_readU hR.1) ?_
    refine g_istore d_M_block_108 (Nat.le_of_ble_eq_true rfl) ?_
    refine g_aload_n d_M_block_110 rfl rfl ?_
    refine g_get d_M_block_111 fM_7 rfl ?_
    refine g_if_lt (tgt := 119) d_M_block_114 (by decide) (fun c_114 => ?_) (fun c_114 => ?_)
    · skip
      refine g_iload d_M_block_119 rfl ?_
      refine g_if_ne (tgt := 126) d_M_block_121 (by decide) (fun c_121 => ?_) (fun c_121 => ?_)
      · skip
        refine g_iload_n d_M_block_126 rfl rfl ?_
        refine g_iload d_M_block_127 rfl ?_
        refine g_iconst (v := nI 1) d_M_block_129 (by decide) ?_
        refine g_isub d_M_block_130 ?_
        refine g_iadd d_M_block_131 ?_
        refine g_istore_n d_M_block_132 rfl (Nat.le_of_ble_eq_true rfl) ?_
        refine g_iload_n d_M_block_133 rfl rfl ?_
        refine g_bipush (v := nI 63) d_M_block_134 (by decide) ?_
        refine g_icmp_le (tgt := 149) d_M_block_136 (by decide) (fun c_136 => ?_) (fun c_136 => ?_)
        · skip
          obtain ⟨v, v1, v2, v3⟩ := wk hR hw c_121 c_136
          rw [if_neg (Int32.not_le.mpr c_114), if_neg c_121, if_pos c_136, v1]
          refine g_aload_n d_M_block_149 rfl rfl ?_
          refine g_get d_M_block_150 fM_10 rfl ?_
          refine g_istore_n d_M_block_153 rfl (Nat.le_of_ble_eq_true rfl) ?_
          refine g_aload_n d_M_block_154 rfl rfl ?_
          refine g_calli (As := []) d_M_block_155 lM_145 mv_M_readS rfl rfl rfl (Nat.le_of_ble_eq_true rfl) (by decide) (m_readS (hR.u 22 0).1) ?_
          refine g_istore d_M_block_158 (Nat.le_of_ble_eq_true rfl) ?_
          refine g_aload_n d_M_block_160 rfl rfl ?_
          refine g_get d_M_block_161 fM_7 rfl ?_
          refine g_if_ge (tgt := 196) d_M_block_164 (by decide) (fun c_164 => ?_) (fun c_164 => ?_)
          · skip
            refine g_iconst (v := nI 0) d_M_block_196 (by decide) ?_
            refine g_iret d_M_block_197 rfl rfl ?_
            first
              | (rw [if_pos c_164]; exact ⟨rfl, rfl⟩)
              | (rw [if_neg c_164, if_pos c_169]; exact ⟨rfl, rfl⟩)
              | (rw [if_neg c_164, if_neg c_169, if_pos c_177]; exact ⟨rfl, rfl⟩)
              | (rw [if_neg c_164, if_neg c_169, if_neg c_177, if_neg c_185]; exact ⟨rfl, rfl⟩)
          · skip
            refine g_iload d_M_block_167 rfl ?_
            refine g_if_eq (tgt := 188) d_M_block_169 (by decide) (fun c_169 => ?_) (fun c_169 => ?_)
            · skip
              refine g_aload_n d_M_block_188 rfl rfl ?_
              refine g_iload_n d_M_block_189 rfl rfl ?_
              refine g_calli (As := [_]) d_M_block_190 lM_16 mv_M_isWrong rfl rfl rfl (Nat.le_of_ble_eq_true rfl) (by decide) (m_isWrong) ?_
              refine g_if_eq (tgt := 198) d_M_block_193 (by decide) (fun c_193 => ?_) (fun c_193 => ?_)
              · exact absurd c_193 (by decide)
              · skip
                refine g_iconst (v := nI 0) d_M_block_196 (by decide) ?_
                refine g_iret d_M_block_197 rfl rfl ?_
                first
                  | (rw [if_pos c_164]; exact ⟨rfl, rfl⟩)
                  | (rw [if_neg c_164, if_pos c_169]; exact ⟨rfl, rfl⟩)
                  | (rw [if_neg c_164, if_neg c_169, if_pos c_177]; exact ⟨rfl, rfl⟩)
                  | (rw [if_neg c_164, if_neg c_169, if_neg c_177, if_neg c_185]; exact ⟨rfl, rfl⟩)
            · skip
              refine g_iload d_M_block_172 rfl ?_
              refine g_sipush (v := nI 2047) d_M_block_174 (by decide) ?_
              refine g_icmp_gt (tgt := 188) d_M_block_177 (by decide) (fun c_177 => ?_) (fun c_177 => ?_)
              · skip
                refine g_aload_n d_M_block_188 rfl rfl ?_
                refine g_iload_n d_M_block_189 rfl rfl ?_
                refine g_calli (As := [_]) d_M_block_190 lM_16 mv_M_isWrong rfl rfl rfl (Nat.le_of_ble_eq_true rfl) (by decide) (m_isWrong) ?_
                refine g_if_eq (tgt := 198) d_M_block_193 (by decide) (fun c_193 => ?_) (fun c_193 => ?_)
                · exact absurd c_193 (by decide)
                · skip
                  refine g_iconst (v := nI 0) d_M_block_196 (by decide) ?_
                  refine g_iret d_M_block_197 rfl rfl ?_
                  first
                    | (rw [if_pos c_164]; exact ⟨rfl, rfl⟩)
                    | (rw [if_neg c_164, if_pos c_169]; exact ⟨rfl, rfl⟩)
                    | (rw [if_neg c_164, if_neg c_169, if_pos c_177]; exact ⟨rfl, rfl⟩)
                    | (rw [if_neg c_164, if_neg c_169, if_neg c_177, if_neg c_185]; exact ⟨rfl, rfl⟩)
              · skip
                refine g_iload d_M_block_180 rfl ?_
                refine g_sipush (v := (-2047)) d_M_block_182 (by decide) ?_
                refine g_icmp_ge (tgt := 198) d_M_block_185 (by decide) (fun c_185 => ?_) (fun c_185 => ?_)
                · skip
                  refine g_aload_n d_M_block_198 rfl rfl ?_
                  refine g_getA d_M_block_199 fM_120 (by decide) ?_
                  refine g_aload_n d_M_block_202 rfl rfl ?_
                  refine g_getA d_M_block_203 fM_117 (by decide) ?_
                  refine g_iload_n d_M_block_206 rfl rfl ?_
                  have hO2 : okO (fU 22 0 (fU 22 0 σ).2).2 := hO.eq (fun j => ((tk_u 22 0 σ).trans (tk_u 22 0 _)) 37 (by decide) (by decide) j)
                  refine g_iaload (k := 37) d_M_block_207 rfl (by decide) (by decide) rfl (vp_in_nI v3 (by decide)) ?_
                  rw [nI_clamp (by omega), hO2 v v3]
                  refine g_aload_n d_M_block_208 rfl rfl ?_
                  refine g_aload_n d_M_block_209 rfl rfl ?_
                  refine g_getA d_M_block_210 fM_117 (by decide) ?_
                  refine g_iload_n d_M_block_213 rfl rfl ?_
                  refine g_iaload (k := 37) d_M_block_214 rfl (by decide) (by decide) rfl (vp_in_nI v3 (by decide)) ?_
                  rw [nI_clamp (by omega), hO2 v v3]
                  refine g_iload d_M_block_215 rfl ?_
                  refine g_calli (As := [_, _]) d_M_block_217 lM_148 mv_M_factor rfl rfl rfl (Nat.le_of_ble_eq_true rfl) (by decide) (m_factor (zz_lt v v3)) ?_
                  refine g_iastore (k := 38) d_M_block_220 rfl (by decide) (by decide) rfl (vp_in_nI (zz_lt v v3) (by decide)) ?_
                  refine g_aload_n d_M_block_221 rfl rfl ?_
                  refine g_dup d_M_block_222 rfl ?_
                  refine g_get d_M_block_223 fM_151 rfl ?_
                  refine g_iconst (v := nI 1) d_M_block_226 (by decide) ?_
                  refine g_iadd d_M_block_227 ?_
                  refine g_put d_M_block_228 fM_151 rfl rfl rfl rfl ?_
                  first | refine g_iinc1 d_M_block_231 rfl ?_ | refine g_iinc d_M_block_231 rfl ?_
                  refine g_goto (tgt := 99) d_M_block_234 (by decide) ?_
                  rw [if_neg c_164, if_neg c_169, if_neg c_177, if_pos c_185, nI_clamp (show zzT v < 2 ^ 31 by have := zz_lt v v3; omega)]
                  have h2 := tk_u 22 0 (fU 22 0 σ).2
                  refine ih (v + 1) _ _ _ _ ?_ ?_ (by omega) (by omega)
                  · exact ((hR.u 22 0).u 22 0).eq ((eqOn.su (by decide)).trans (eqOn.su (by decide)))
                  · exact hO2.eq (fun j => rfl)
                · skip
                  refine g_aload_n d_M_block_188 rfl rfl ?_
                  refine g_iload_n d_M_block_189 rfl rfl ?_
                  refine g_calli (As := [_]) d_M_block_190 lM_16 mv_M_isWrong rfl rfl rfl (Nat.le_of_ble_eq_true rfl) (by decide) (m_isWrong) ?_
                  refine g_if_eq (tgt := 198) d_M_block_193 (by decide) (fun c_193 => ?_) (fun c_193 => ?_)
                  · exact absurd c_193 (by decide)
                  · skip
                    refine g_iconst (v := nI 0) d_M_block_196 (by decide) ?_
                    refine g_iret d_M_block_197 rfl rfl ?_
                    first
                      | (rw [if_pos c_164]; exact ⟨rfl, rfl⟩)
                      | (rw [if_neg c_164, if_pos c_169]; exact ⟨rfl, rfl⟩)
                      | (rw [if_neg c_164, if_neg c_169, if_pos c_177]; exact ⟨rfl, rfl⟩)
                      | (rw [if_neg c_164, if_neg c_169, if_neg c_177, if_neg c_185]; exact ⟨rfl, rfl⟩)
        · skip
          refine g_aload_n d_M_block_139 rfl rfl ?_
          refine g_iload_n d_M_block_140 rfl rfl ?_
          refine g_calli (As := [_]) d_M_block_141 lM_16 mv_M_isWrong rfl rfl rfl (Nat.le_of_ble_eq_true rfl) (by decide) (m_isWrong) ?_
          refine g_if_eq (tgt := 149) d_M_block_144 (by decide) (fun c_144 => ?_) (fun c_144 => ?_)
          · exact absurd c_144 (by decide)
          · skip
            refine g_iconst (v := nI 0) d_M_block_147 (by decide) ?_
            refine g_iret d_M_block_148 rfl rfl ?_
            rw [if_neg (Int32.not_le.mpr c_114), if_neg c_121, if_neg c_136]
            exact ⟨rfl, rfl⟩
      · skip
        refine g_iconst (v := nI 1) d_M_block_124 (by decide) ?_
        refine g_iret d_M_block_125 rfl rfl ?_
        rw [if_neg (Int32.not_le.mpr c_114), if_pos c_121]
        exact ⟨rfl, rfl⟩
    · skip
      refine g_iconst (v := nI 0) d_M_block_117 (by decide) ?_
      refine g_iret d_M_block_118 rfl rfl ?_
      rw [if_pos (Int32.not_lt.mp c_114)]
      exact ⟨rfl, rfl⟩
theorem m_blk_c {s0 : State} {l : Launch} {hB : Mem} {m : Nat} {p : Int32} {σ : Sg} {P : Option Value → Sg → Prop} (k : GQ s0 l M_M_block hB m 21 [some (.ref m), some (.int p), some (.int (nI 64)), none, none, none] [] (fClr σ 64) P) : GQ s0 l M_M_block hB m 2 [some (.ref m), some (.int p), some (.int (nI 0)), none, none, none] [] σ P := by
  have key := g_loop (s0 := s0) (l := l) (M := M_M_block) (hB := hB) (m := m) (P := P) (pc := 2) 64 (fun i => fClr σ i) (fun i => [some (.ref m), some (.int p), some (.int (nI i)), none, none, none]) (fun i hi ih => ?_) ?_ 0 (Nat.zero_le _)
  · rw [fClr_0] at key
    exact key
  · skip
    refine g_iload_n d_M_block_2 rfl rfl ?_
    refine g_bipush (v := nI 64) d_M_block_3 (by decide) ?_
    refine g_icmp_ge (tgt := 21) d_M_block_5 (by decide) (fun c_5 => ?_) (fun c_5 => ?_)
    · exact absurd ((nI_leI (by omega) (by omega)).mp c_5) (by omega)
    · skip
      refine g_aload_n d_M_block_8 rfl rfl ?_
      refine g_getA d_M_block_9 fM_120 (by decide) ?_
      refine g_iload_n d_M_block_12 rfl rfl ?_
      refine g_iconst (v := nI 0) d_M_block_13 (by decide) ?_
      refine g_iastore (k := 38) d_M_block_14 rfl (by decide) (by decide) rfl (vp_in_nI (show i < 64 from hi) (by decide)) ?_
      first | refine g_iinc1 d_M_block_15 rfl ?_ | refine g_iinc d_M_block_15 rfl ?_
      refine g_goto (tgt := 2) d_M_block_18 (by decide) ?_
      rw [nI_clamp (by omega), fClr_s]
      exact ih
  · skip
    refine g_iload_n d_M_block_2 rfl rfl ?_
    refine g_bipush (v := nI 64) d_M_block_3 (by decide) ?_
    refine g_icmp_ge (tgt := 21) d_M_block_5 (by decide) (fun c_5 => ?_) (fun c_5 => ?_)
    · skip
      exact k
    · exact absurd (nI_le (Nat.le_refl 64) (by decide)) c_5
theorem m_block {s0 : State} {l : Launch} {m : Nat} {σ : Sg} {p : Nat} (hR : okR σ) (hO : okO σ) (hp : p < 3) : GC s0 l M_M_block m [.int (nI p)] σ (fun r σ' => r = some (.int (fBlk σ p).1) ∧ σ' = (fBlk σ p).2) := by
  refine g_in (by decide) rfl rfl (Nat.le_of_ble_eq_true rfl) (fun hB => ?_)
  refine g_iconst (v := nI 0) d_M_block_0 (by decide) ?_
  refine g_istore_n d_M_block_1 rfl (Nat.le_of_ble_eq_true rfl) ?_
  refine m_blk_c ?_
  have hR1 : okR (fClr σ 64) := hR.eq (eqOn.sa (by decide))
  have hO1 : okO (fClr σ 64) := hO.eq (fun j => rfl)
  unfold fBlk
  refine g_iconst (v := nI 0) d_M_block_21 (by decide) ?_
  refine g_istore_n d_M_block_22 rfl (Nat.le_of_ble_eq_true rfl) ?_
  refine g_aload_n d_M_block_23 rfl rfl ?_
  refine g_get d_M_block_24 fM_132 rfl ?_
  refine g_if_eq (tgt := 99) d_M_block_27 (by decide) (fun c_27 => ?_) (fun c_27 => ?_)
  · skip
    first
      | (rw [if_pos (show σ 32 0 = 0 from c_27)]
         exact m_block_l 65 0 _ _ _ _ hR1 hO1 (by decide) (by decide))
      | (rw [if_neg c_52, if_neg (show ¬ σ 33 p + sgnU (fU 22 0 (fClr σ 64)).1 < 0 from c_57), if_pos (show σ 33 p + sgnU (fU 22 0 (fClr σ 64)).1 ≤ nI 255 from c_65), nI_clamp (show p < 2 ^ 31 by omega), nI_clamp (show 0 < 2 ^ 31 by decide)]
         refine m_block_l 65 1 _ _ _ _ ?_ ?_ (by decide) (by decide)
         · exact (hR1.u 22 0).eq ((eqOn.su (by decide)).trans (eqOn.su (by decide)))
         · exact hO1.eq (fun j => tk_u 22 0 (fClr σ 64) 37 (by decide) (by decide) j))
  · skip
    rw [if_neg (show ¬ σ 32 0 = 0 from c_27)]
    refine g_aload_n d_M_block_30 rfl rfl ?_
    refine g_get d_M_block_31 fM_10 rfl ?_
    refine g_istore_n d_M_block_34 rfl (Nat.le_of_ble_eq_true rfl) ?_
    refine g_aload_n d_M_block_35 rfl rfl ?_
    refine g_getA d_M_block_36 fM_114 (by decide) ?_
    refine g_iload_n d_M_block_39 rfl rfl ?_
    refine g_iaload (k := 33) d_M_block_40 rfl (by decide) (by decide) rfl (vp_in_nI hp (by decide)) ?_
    rw [nI_clamp (show p < 2 ^ 31 by omega)]
    refine g_aload_n d_M_block_41 rfl rfl ?_
    refine g_calli (As := []) d_M_block_42 lM_145 mv_M_readS rfl rfl rfl (Nat.le_of_ble_eq_true rfl) (by decide) (m_readS hR1.1) ?_
    refine g_iadd d_M_block_45 ?_
    refine g_istore d_M_block_46 (Nat.le_of_ble_eq_true rfl) ?_
    refine g_aload_n d_M_block_48 rfl rfl ?_
    refine g_get d_M_block_49 fM_7 rfl ?_
    refine g_if_ge (tgt := 76) d_M_block_52 (by decide) (fun c_52 => ?_) (fun c_52 => ?_)
    · skip
      refine g_iconst (v := nI 0) d_M_block_76 (by decide) ?_
      refine g_iret d_M_block_77 rfl rfl ?_
      first
        | (rw [if_pos c_52]; exact ⟨rfl, rfl⟩)
        | (rw [if_neg c_52, if_pos (show σ 33 p + sgnU (fU 22 0 (fClr σ 64)).1 < 0 from c_57)]; exact ⟨rfl, rfl⟩)
        | (rw [if_neg c_52, if_neg (show ¬ σ 33 p + sgnU (fU 22 0 (fClr σ 64)).1 < 0 from c_57), if_neg (show ¬ σ 33 p + sgnU (fU 22 0 (fClr σ 64)).1 ≤ nI 255 from c_65)]; exact ⟨rfl, rfl⟩)
    · skip
      refine g_iload d_M_block_55 rfl ?_
      refine g_if_lt (tgt := 68) d_M_block_57 (by decide) (fun c_57 => ?_) (fun c_57 => ?_)
      · skip
        refine g_aload_n d_M_block_68 rfl rfl ?_
        refine g_iload_n d_M_block_69 rfl rfl ?_
        refine g_calli (As := [_]) d_M_block_70 lM_16 mv_M_isWrong rfl rfl rfl (Nat.le_of_ble_eq_true rfl) (by decide) (m_isWrong) ?_
        refine g_if_eq (tgt := 78) d_M_block_73 (by decide) (fun c_73 => ?_) (fun c_73 => ?_)
        · exact absurd c_73 (by decide)
        · skip
          refine g_iconst (v := nI 0) d_M_block_76 (by decide) ?_
          refine g_iret d_M_block_77 rfl rfl ?_
          first
            | (rw [if_pos c_52]; exact ⟨rfl, rfl⟩)
            | (rw [if_neg c_52, if_pos (show σ 33 p + sgnU (fU 22 0 (fClr σ 64)).1 < 0 from c_57)]; exact ⟨rfl, rfl⟩)
            | (rw [if_neg c_52, if_neg (show ¬ σ 33 p + sgnU (fU 22 0 (fClr σ 64)).1 < 0 from c_57), if_neg (show ¬ σ 33 p + sgnU (fU 22 0 (fClr σ 64)).1 ≤ nI 255 from c_65)]; exact ⟨rfl, rfl⟩)
      · skip
        refine g_iload d_M_block_60 rfl ?_
        refine g_sipush (v := nI 255) d_M_block_62 (by decide) ?_
        refine g_icmp_le (tgt := 78) d_M_block_65 (by decide) (fun c_65 => ?_) (fun c_65 => ?_)
        · skip
          refine g_aload_n d_M_block_78 rfl rfl ?_
          refine g_getA d_M_block_79 fM_114 (by decide) ?_
          refine g_iload_n d_M_block_82 rfl rfl ?_
          refine g_iload d_M_block_83 rfl ?_
          refine g_iastore (k := 33) d_M_block_85 rfl (by decide) (by decide) rfl (vp_in_nI hp (by decide)) ?_
          refine g_aload_n d_M_block_86 rfl rfl ?_
          refine g_getA d_M_block_87 fM_120 (by decide) ?_
          refine g_iconst (v := nI 0) d_M_block_90 (by decide) ?_
          refine g_bipush (v := nI 8) d_M_block_91 (by decide) ?_
          refine g_iload d_M_block_93 rfl ?_
          refine g_imul d_M_block_95 ?_
          refine g_iastore (k := 38) d_M_block_96 rfl (by decide) (by decide) rfl (vp_in_nI (show 0 < 64 by decide) (by decide)) ?_
          refine g_iconst (v := nI 1) d_M_block_97 (by decide) ?_
          refine g_istore_n d_M_block_98 rfl (Nat.le_of_ble_eq_true rfl) ?_
          first
            | (rw [if_pos (show σ 32 0 = 0 from c_27)]
               exact m_block_l 65 0 _ _ _ _ hR1 hO1 (by decide) (by decide))
            | (rw [if_neg c_52, if_neg (show ¬ σ 33 p + sgnU (fU 22 0 (fClr σ 64)).1 < 0 from c_57), if_pos (show σ 33 p + sgnU (fU 22 0 (fClr σ 64)).1 ≤ nI 255 from c_65), nI_clamp (show p < 2 ^ 31 by omega), nI_clamp (show 0 < 2 ^ 31 by decide)]
               refine m_block_l 65 1 _ _ _ _ ?_ ?_ (by decide) (by decide)
               · exact (hR1.u 22 0).eq ((eqOn.su (by decide)).trans (eqOn.su (by decide)))
               · exact hO1.eq (fun j => tk_u 22 0 (fClr σ 64) 37 (by decide) (by decide) j))
        · skip
          refine g_aload_n d_M_block_68 rfl rfl ?_
          refine g_iload_n d_M_block_69 rfl rfl ?_
          refine g_calli (As := [_]) d_M_block_70 lM_16 mv_M_isWrong rfl rfl rfl (Nat.le_of_ble_eq_true rfl) (by decide) (m_isWrong) ?_
          refine g_if_eq (tgt := 78) d_M_block_73 (by decide) (fun c_73 => ?_) (fun c_73 => ?_)
          · exact absurd c_73 (by decide)
          · skip
            refine g_iconst (v := nI 0) d_M_block_76 (by decide) ?_
            refine g_iret d_M_block_77 rfl rfl ?_
            first
              | (rw [if_pos c_52]; exact ⟨rfl, rfl⟩)
              | (rw [if_neg c_52, if_pos (show σ 33 p + sgnU (fU 22 0 (fClr σ 64)).1 < 0 from c_57)]; exact ⟨rfl, rfl⟩)
              | (rw [if_neg c_52, if_neg (show ¬ σ 33 p + sgnU (fU 22 0 (fClr σ 64)).1 < 0 from c_57), if_neg (show ¬ σ 33 p + sgnU (fU 22 0 (fClr σ 64)).1 ≤ nI 255 from c_65)]; exact ⟨rfl, rfl⟩)

