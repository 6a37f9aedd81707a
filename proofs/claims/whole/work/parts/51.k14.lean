/-! ===== reading a square ===== -/

theorem FI.hd {A B s : Nat} {g : Gh} {n inn mv : Int32} {W : Nat} {κ0 σ0 κ σ : Sg} {b : Nat} (h : FI A B s g n inn mv W κ0 σ0) (hb : BL A B s g inn κ0 σ0 b κ σ) : κ 6 7 = σ 35 0 ∧ σ 32 0 = inn ∧ SX A B g κ σ :=
  ⟨(hb.1.1 6 (nLB (by decide) (by decide)) 7).trans (h.2.1.2.1.trans (hb.1.2 35 (by decide) 0).symm), (hb.1.2 32 (by decide) 0).trans h.2.2.1, (h.1.ck (hb.1.1.mono LB_SI)).cs (hb.1.2.mono (by decide))⟩
theorem kpB {g : Gh} {κ κ' : Sg} (h : kp [1, 4, 7, 8, 10] κ κ') : kp (LB g) κ κ' := h.mono (fun k hk => by simp at hk ⊢; omega)
theorem kpI {S : List Nat} {g : Gh} {κ κ' : Sg} (h : kp S κ κ') (hs : ∀ k, k ∈ S → k ∈ [1, 4, 6, 7, 8, 9, 10, 11, 12]) : kp (SI g) κ κ' := h.mono (fun k hk => by have := hs k hk; simp at this ⊢; omega)
theorem EQ.thr0 {S : List Nat} {g : Gh} {κ σ τ : Sg} {R : Sg → Prop} {x : Int32} (h1 : 1 ∈ S) (w : 0 ≤ τ 6 0) (ha : TB κ σ) (ht : kp [4, 6] σ τ) : EQ S g κ (nI 0, τ) R (.inr ISE) (gx g) (su (su κ 1 2 x) 1 3 (τ 6 0)) := EQ.thr (τ := τ) h1 w rfl rfl rfl ha (fun j hj => ht j (by simp; omega) 0)
theorem in1 {g : Gh} : 1 ∈ SI g := by simp

theorem s_sq_b {s0 : State} {l : Launch} {c : Cx} {hB : Mem} {g : Gh} {κ σ : Sg} {A B s : Nat} {n : Int32} {W b : Nat} {inn mv cd wh : Int32} {κ0 σ0 : Sg} {P : Out → Gh → Sg → Prop} (hs : s < A * B) (hb : b < 6) (hFI : FI A B s g n inn mv W κ0 σ0) (h : BL A B s g inn κ0 σ0 b κ σ) (kt : ∀ κ', kp (LB g) κ κ' → 0 ≤ (fBlk σ (bP b)).2 6 0 → κ' 1 3 = (fBlk σ (bP b)).2 6 0 → TB κ' (fBlk σ (bP b)).2 → P (.inr ISE) (gx g) κ') (kk : ¬ (fBlk σ (bP b)).1 = 0 → ∀ κ2, kp (LB g) κ κ2 → BL A B s g inn κ0 σ0 (b + 1) κ2 (fBs σ A B s b) → KQ s0 l M_S_readSquare c hB 253 [some (.ref (gA g 6)), some (.int (nI s)), some (.int (inn)), some (.int (nI W)), some (.int (cd)), some (.int (wh)), some (.int (nI b))] [] g κ2 P) : KQ s0 l M_S_readSquare c hB 241 [some (.ref (gA g 6)), some (.int (nI s)), some (.int (inn)), some (.int (nI W)), some (.int (cd)), some (.int (wh)), some (.int (nI b))] [.int (nI (bP b)), .ref (gA g 6)] g κ P := by
  obtain ⟨hq, hi, hX⟩ := hFI.hd h
  have hA := hX.1.2.1
  have hG := hX.1.1
  have hp : bP b < 3 := (bXY hA.1 hs hb).1
  refine k_iload_n d_S_readSquare_241 rfl rfl ?_
  refine k_call (As := [_, _]) d_S_readSquare_242 lS_140 mv_S_readBlock rfl rfl (al_0 (by decide)) rfl rfl rfl (Nat.le_of_ble_eq_true rfl) (by decide) (s_readBlock (p := bP b) h.2.1 h.2.2.1 hq hi hp h.2.2.2.2.1) (fun v_242 g_242 κ_242 q_242 => ?_) (fun E_242 g_242 κ_242 q_242 => ?_)
  · skip
    have hz := q_242.2.resolve_right (fun z => nomatch z.2.1)
    have hk := q_242.1
    obtain ⟨z1, z2, z3, z4, z5, z6, z7⟩ := hz
    obtain rfl := Sum.inl.inj z2
    obtain rfl := z3.symm
    have hX1 := hX.ck (kpI hk (by decide))
    refine k_aload_n d_S_readSquare_245 rfl rfl ?_
    refine k_iload_n d_S_readSquare_246 rfl rfl ?_
    refine k_iload d_S_readSquare_247 rfl ?_
    refine k_iload_n d_S_readSquare_249 rfl rfl ?_
    refine k_callv (As := [_, _, _]) d_S_readSquare_250 lS_144 mv_S_drawBlock rfl rfl (al_0 (by decide)) rfl rfl rfl (Nat.le_of_ble_eq_true rfl) (by decide) (s_drawBlock (A := A) (B := B) (s := s) (b := b) hG hA hX1.1.2.2.2.1 hX1.1.2.2.2.2.1 hs hb) ?_
    have hN := h.next hA hs hb hi hk z5 z6 z7
    refine kk z4 _ ?_ hN
    refine (kpB hk).trans (kp.trans ((kp_mk κ_242).mono (fun k hk => by simp at hk ⊢; omega)) ?_)
    exact kp.sa (inD hp)
  · skip
    have hz := q_242.2.resolve_left (fun z => nomatch z.2.1)
    have hk := q_242.1
    obtain ⟨z1, z2, z3, z4, z5⟩ := hz
    obtain rfl := Sum.inr.inj z2
    obtain rfl := z3
    exact kt κ_242 (kpB hk) z1 z4 z5

theorem s_sq_l {s0 : State} {l : Launch} {c : Cx} {hB : Mem} {g : Gh}  {A B s : Nat} {n : Int32} {W : Nat} {inn mv cd wh : Int32} {κ0 σ0 : Sg} (hs : s < A * B) (hFI : FI A B s g n inn mv W κ0 σ0) (hwh : ¬ inn = 0 → wh = nI 63) : ∀ (m b : Nat) (κ σ : Sg), b + m = 6 → BL A B s g inn κ0 σ0 b κ σ → KQ s0 l M_S_readSquare c hB 206 [some (.ref (gA g 6)), some (.int (nI s)), some (.int (inn)), some (.int (nI W)), some (.int (cd)), some (.int (wh)), some (.int (nI b))] [] g κ (EQ (LB g) g κ (fAB A B s wh m b σ) (fun κ' => ∃ κ2, BL A B s g inn κ0 σ0 6 κ2 (fAB A B s wh m b σ).2 ∧ κ' = su κ2 4 4 (κ2 4 4 + nI 1))) := by
  intro m
  induction m with
  | zero =>
    intro b κ σ hb h
    refine k_iload d_S_readSquare_206 rfl ?_
    refine k_bipush (v := nI 6) d_S_readSquare_208 (by decide) ?_
    refine k_icmp_ge (tgt := 259) d_S_readSquare_210 (by decide) (fun c_210 => ?_) (fun c_210 => ?_)
    · skip
      refine k_aload_n d_S_readSquare_259 rfl rfl ?_
      refine k_getR d_S_readSquare_260 fS_32 rfl (al_0 (by decide)) rfl rfl ?_
      refine k_getR d_S_readSquare_263 fS_124 rfl (al_0 (by decide)) rfl rfl ?_
      refine k_iconst (v := nI 4) d_S_readSquare_266 (by decide) ?_
      refine k_dup2 d_S_readSquare_267 rfl rfl ?_
      refine k_iaload d_S_readSquare_268 (al_0 (by decide)) rfl (show vp_in _ 8 from vp_in_nI (show 4 < 8 by decide) (by decide)) ?_
      refine k_iconst (v := nI 1) d_S_readSquare_269 (by decide) ?_
      refine k_iadd d_S_readSquare_270 ?_
      refine k_iastore d_S_readSquare_271 (al_0 (by decide)) rfl (show vp_in _ 8 from vp_in_nI (show 4 < 8 by decide) (by decide)) ?_
      refine k_vret d_S_readSquare_272 rfl ?_
      have eb : b = 6 := by omega
      subst eb
      exact ⟨kp.su (by simp), Or.inl ⟨h.2.1.2.2.2.1, (show ¬ nI 1 = 0 by decide), rfl, rfl, κ, h, rfl⟩⟩
    · exact absurd (nI_le (show 6 ≤ b by omega) (by omega)) c_210
  | succ m ih =>
    intro b κ σ hb h
    have hb6 : b < 6 := by omega
    refine k_iload d_S_readSquare_206 rfl ?_
    refine k_bipush (v := nI 6) d_S_readSquare_208 (by decide) ?_
    refine k_icmp_ge (tgt := 259) d_S_readSquare_210 (by decide) (fun c_210 => ?_) (fun c_210 => ?_)
    · exact absurd ((nI_leI (by decide) (by omega)).mp c_210) (by omega)
    · skip
      refine k_iload d_S_readSquare_213 rfl ?_
      refine k_iconst (v := nI 5) d_S_readSquare_215 (by decide) ?_
      refine k_iload d_S_readSquare_216 rfl ?_
      refine k_isubN d_S_readSquare_218 (by omega) ?_
      refine k_ishr d_S_readSquare_219 ?_
      refine k_iconst (v := nI 1) d_S_readSquare_220 (by decide) ?_
      refine k_iand d_S_readSquare_221 ?_
      refine k_iconst (v := nI 1) d_S_readSquare_222 (by decide) ?_
      refine k_icmp_ne (tgt := 253) d_S_readSquare_223 (by decide) (fun c_223 => ?_) (fun c_223 => ?_)
      · skip
        first | refine k_iinc1 d_S_readSquare_253 rfl ?_ | refine k_iinc d_S_readSquare_253 rfl ?_
        refine k_goto (tgt := 206) d_S_readSquare_256 (by decide) ?_
        have e0 : wh >>> (nI (5 - b) &&& 31) &&& nI 1 = 0 := (and1 _).resolve_right c_223
        have e9 : fAB A B s wh (m + 1) b σ = fAB A B s wh m (b + 1) σ := if_pos e0
        rw [e9]
        have ei : inn = 0 := Classical.byContradiction (fun z => c_223 (by
          rw [hwh z]
          exact (show ∀ b, b < 6 → nI 63 >>> (nI (5 - b) &&& 31) &&& nI 1 = nI 1 by decide +kernel) b hb6))
        exact ih (b + 1) κ σ (by omega) (h.skip ei)
      · skip
        refine k_aload_n d_S_readSquare_226 rfl rfl ?_
        refine k_iload d_S_readSquare_227 rfl ?_
        refine k_iconst (v := nI 4) d_S_readSquare_229 (by decide) ?_
        refine k_icmp_ge (tgt := 237) d_S_readSquare_230 (by decide) (fun c_230 => ?_) (fun c_230 => ?_)
        · skip
          have hb4 : 4 ≤ b := (nI_leI (by decide) (by omega)).mp c_230
          refine k_iload d_S_readSquare_237 rfl ?_
          refine k_iconst (v := nI 3) d_S_readSquare_239 (by decide) ?_
          refine k_isubN d_S_readSquare_240 (by omega) ?_
          refine k_top (show _ = nI (bP b) from by unfold bP; rw [if_neg (by omega)]) ?_
          have e0 : ¬ wh >>> (nI (5 - b) &&& 31) &&& nI 1 = 0 := by rw [c_223]; decide
          have e8 : fAB A B s wh (m + 1) b σ = if (fBlk σ (bP b)).1 = 0 then (nI 0, (fBlk σ (bP b)).2) else fAB A B s wh m (b + 1) (fBs σ A B s b) := if_neg e0
          refine s_sq_b (W := W) (mv := mv) (n := n) hs hb6 hFI h (fun κ' k1 k2 k3 k4 => ?_) (fun k1 κ2 k2 k3 => ?_)
          · rw [e8, if_pos (blk1 k2)]
            exact ⟨k1, Or.inr ⟨k2, rfl, rfl, rfl, k3, k4⟩⟩
          · rw [e8, if_neg k1]
            first | refine k_iinc1 d_S_readSquare_253 rfl ?_ | refine k_iinc d_S_readSquare_253 rfl ?_
            refine k_goto (tgt := 206) d_S_readSquare_256 (by decide) ?_
            exact KQ.mono (ih (b + 1) κ2 _ (by omega) k3) (fun o g' κ' z => EQ.up (S := LB g) (κ := κ) z k2)
        · skip
          refine k_iconst (v := nI 0) d_S_readSquare_233 (by decide) ?_
          refine k_goto (tgt := 241) d_S_readSquare_234 (by decide) ?_
          refine k_top (show _ = nI (bP b) from by unfold bP; rw [if_pos (Nat.lt_of_not_le (fun z => c_230 (nI_le z (by omega))))]) ?_
          have e0 : ¬ wh >>> (nI (5 - b) &&& 31) &&& nI 1 = 0 := by rw [c_223]; decide
          have e8 : fAB A B s wh (m + 1) b σ = if (fBlk σ (bP b)).1 = 0 then (nI 0, (fBlk σ (bP b)).2) else fAB A B s wh m (b + 1) (fBs σ A B s b) := if_neg e0
          refine s_sq_b (W := W) (mv := mv) (n := n) hs hb6 hFI h (fun κ' k1 k2 k3 k4 => ?_) (fun k1 κ2 k2 k3 => ?_)
          · rw [e8, if_pos (blk1 k2)]
            exact ⟨k1, Or.inr ⟨k2, rfl, rfl, rfl, k3, k4⟩⟩
          · rw [e8, if_neg k1]
            first | refine k_iinc1 d_S_readSquare_253 rfl ?_ | refine k_iinc d_S_readSquare_253 rfl ?_
            refine k_goto (tgt := 206) d_S_readSquare_256 (by decide) ?_
            exact KQ.mono (ih (b + 1) κ2 _ (by omega) k3) (fun o g' κ' z => EQ.up (S := LB g) (κ := κ) z k2)

theorem sqD_ep {g : Gh} {κ σ κ0 σ0 : Sg} {A B s : Nat} {n : Int32} {W : Nat} {inn mv wh : Int32} {o : Out} {g' : Gh} {κ' : Sg} (hk : kp (SI g) κ κ0) (hF : FI A B s g n inn mv W κ0 σ0) (hw : ¬ 0 ≤ σ 6 0) (eF : sqF A B s σ = σ0) (z : EQ (LB g) g κ0 (fAB A B s wh 6 0 σ0) (fun κ' => ∃ κ2, BL A B s g inn κ0 σ0 6 κ2 (fAB A B s wh 6 0 σ0).2 ∧ κ' = su κ2 4 4 (κ2 4 4 + nI 1)) o g' κ') : (EQ (SI g) g κ (sqD A B s mv wh σ) (fun κ' => BT A B (s + 1) g n κ' (sqD A B s mv wh σ).2)) o g' κ' := by
  obtain ⟨z1, z2⟩ := z
  have e : sqD A B s mv wh σ = if (fAB A B s wh 6 0 σ0).1 = 0 then (nI 0, (fAB A B s wh 6 0 σ0).2) else (nI 1, sqE mv (fAB A B s wh 6 0 σ0).2) := by
    unfold sqD
    rw [if_neg hw, eF]
  rw [e]
  rcases z2 with ⟨a1, a2, a3, a4, κ2, a5, a6⟩ | ⟨a1, a2, a3, a4, a5, a6⟩
  · rw [if_neg a2]
    have hB := hF.fin a5
    rw [← a6] at hB
    exact ⟨hk.trans (z1.mono LB_SI), Or.inl ⟨hB.2.1.2.2.2.1, (show ¬ nI 1 = 0 by decide), a3, a4, hB⟩⟩
  · rw [if_pos a2]
    exact ⟨hk.trans (z1.mono LB_SI), Or.inr ⟨a1, rfl, a3, a4, a5, a6⟩⟩
theorem s_sq_D {s0 : State} {l : Launch} {c : Cx} {hB : Mem} {g : Gh} {κ σ : Sg} {A B s : Nat} {n : Int32} {W : Nat} {inn mv cd wh : Int32} {y6 : Option Value} (hs : s < A * B) (h : IN A B s g n κ σ) (hW : WU W mv σ) (hu1 : U1 W σ) (hu2 : U2 W σ) (hin : σ 32 0 = inn) (hwh : ¬ inn = 0 → wh = nI 63) : KQ s0 l M_S_readSquare c hB 165 [some (.ref (gA g 6)), some (.int (nI s)), some (.int (inn)), some (.int (nI W)), some (.int (cd)), some (.int (wh)), y6] [] g κ (EQ (SI g) g κ (sqD A B s mv wh σ) (fun κ' => BT A B (s + 1) g n κ' (sqD A B s mv wh σ).2)) := by
  have hX := h.1
  have hA := hX.1.2.1
  have hG := hX.1.1
  have hO := h.2.2.2.1.2.2.1
  have hqN : gN g < 3 + gC g := by have := hG.1; omega
  have hw6 : ¬ 0 ≤ σ 6 0 := h.2.1.w
  refine k_iload_n d_S_readSquare_165 rfl rfl ?_
  refine k_if_eq (tgt := 197) d_S_readSquare_166 (by decide) (fun c_166 => ?_) (fun c_166 => ?_)
  · skip
    have hi : σ 32 0 = 0 := hin.trans c_166
    have h34 : σ 34 0 = nI 2 ∨ σ 34 0 = nI 3 := by
      rcases hW with ⟨x, -⟩ | ⟨-, x, -⟩ | ⟨-, x, -⟩
      · exact absurd hi x
      · exact Or.inl x
      · exact Or.inr x
    have hlT : ∀ p, p < 3 → wdN A p * wdN B p ≤ gL g (idD (gT g) p) := by
      rcases h34 with e | e
      · exact (hX.2.2.2.1 (hO.2.1 e)).2
      · exact (hX.2.2.2.1 (hO.2.2 e).2).2
    have hlO : ¬ κ 6 6 = nI 2 → ∀ p, p < 3 → wdN A p * wdN B p ≤ gL g (idD (gO g) p) := fun z => by
      have e : σ 34 0 = nI 3 := h34.resolve_left (fun y => z (h.2.2.2.1.1.trans y))
      exact (hX.2.2.2.2 (hO.2.2 e).1).2
    refine k_aload_n d_S_readSquare_197 rfl rfl ?_
    refine k_iload_n d_S_readSquare_198 rfl rfl ?_
    refine k_iload_n d_S_readSquare_199 rfl rfl ?_
    refine k_callv (As := [_, _]) d_S_readSquare_200 lS_112 mv_S_foretellSquare rfl rfl (al_0 (by decide)) rfl rfl rfl (Nat.le_of_ble_eq_true rfl) (by decide) (s_foretellSquare (w := W) hA hG hX.1.2.2.1 hX.1.2.2.2.1 hX.1.2.2.2.2.1 hs hW.lt hlO hlT) ?_
    refine k_iconst (v := nI 0) d_S_readSquare_203 (by decide) ?_
    refine k_istore d_S_readSquare_204 (Nat.le_of_ble_eq_true rfl) ?_
    have hi : σ 32 0 = 0 := hin.trans c_166
    obtain ⟨hF, hL, hk⟩ := h.tell hW hu1 hu2 hi
    rw [hin] at hF hL
    have eF : sqF A B s σ = fT σ A B s := if_pos hi
    refine KQ.mono (s_sq_l hs hF hwh 6 0 _ _ rfl hL) (fun o g' κ' z => ?_)
    exact sqD_ep hk hF hw6 eF z
  · skip
    refine k_aload_n d_S_readSquare_169 rfl rfl ?_
    refine k_callv (As := []) d_S_readSquare_170 lS_130 mv_S_forgetVectors rfl rfl (al_0 (by decide)) rfl rfl rfl (Nat.le_of_ble_eq_true rfl) (by decide) (s_forgetVectors) ?_
    refine k_aload_n d_S_readSquare_173 rfl rfl ?_
    refine k_iconst (v := nI 0) d_S_readSquare_174 (by decide) ?_
    refine k_put d_S_readSquare_175 fS_109 rfl (al_0 (by decide)) rfl rfl rfl rfl ?_
    refine k_aload_n d_S_readSquare_178 rfl rfl ?_
    refine k_getR d_S_readSquare_179 fS_32 rfl (al_0 (by decide)) rfl rfl ?_
    refine k_getR d_S_readSquare_182 fS_115 rfl (al_0 (by decide)) rfl rfl ?_
    refine k_getR d_S_readSquare_185 fS_119 rfl (al_P hqN) (kd_P (gN g)) (pt_P1 g (gN g)) ?_
    refine k_iconst (v := nI 2) d_S_readSquare_188 (by decide) ?_
    refine k_dup2 d_S_readSquare_189 rfl rfl ?_
    refine k_iaload d_S_readSquare_190 (al_F hqN) (kd_F (gN g)) (show vp_in _ (lnI g (idF (gN g))) by rw [ln_F]; exact vp_in_nI (show 2 < 4 by decide) (by decide)) ?_
    refine k_iconst (v := nI 1) d_S_readSquare_191 (by decide) ?_
    refine k_iadd d_S_readSquare_192 ?_
    refine k_iastore d_S_readSquare_193 (al_F hqN) (kd_F (gN g)) (show vp_in _ (lnI g (idF (gN g))) by rw [ln_F]; exact vp_in_nI (show 2 < 4 by decide) (by decide)) ?_
    refine k_goto (tgt := 203) d_S_readSquare_194 (by decide) ?_
    refine k_iconst (v := nI 0) d_S_readSquare_203 (by decide) ?_
    refine k_istore d_S_readSquare_204 (Nat.le_of_ble_eq_true rfl) ?_
    have hi : ¬ σ 32 0 = 0 := fun z => c_166 (hin.symm.trans z)
    obtain ⟨hF, hL, hk⟩ := h.inner hW hu1 hu2 hi
    rw [hin] at hF hL
    have eF : sqF A B s σ = σ := if_neg hi
    have ek : su (fFl (fFl κ 11 (nI 0) 2) 12 (nI 0) 2) 6 9 (nI 0) (idF (gN g)) 2 = κ (idF (gN g)) 2 := (su_k (nF (by decide))).trans ((sa_k (nF (by decide))).trans (sa_k (nF (by decide))))
    refine k_st (κ2 := kIn g κ) (show su (su (fFl (fFl κ 11 (nI 0) 2) 12 (nI 0) 2) 6 9 (nI 0)) (idF (gN g)) 2 (su (fFl (fFl κ 11 (nI 0) 2) 12 (nI 0) 2) 6 9 (nI 0) (idF (gN g)) 2 + nI 1) = kIn g κ by unfold kIn; rw [ek]) ?_
    refine KQ.mono (s_sq_l hs hF hwh 6 0 _ _ rfl hL) (fun o g' κ' z => ?_)
    exact sqD_ep hk hF hw6 eF z

theorem U1.cs {S : List Nat} {W : Nat} {σ σ' : Sg} (h : U1 W σ) (e : kp S σ σ') (h1 : 28 ∉ S) (h2 : 29 ∉ S) : U1 W σ' := fun j hj => by
  rw [e 28 h1, e 29 h2]
  exact h j hj
theorem U2.cs {S : List Nat} {W : Nat} {σ σ' : Sg} (h : U2 W σ) (e : kp S σ σ') (h1 : 28 ∉ S) (h2 : 29 ∉ S) : U2 W σ' := fun j hj => by
  rw [e 28 h1, e 29 h2]
  exact h j hj
theorem s_sq_C {s0 : State} {l : Launch} {c : Cx} {hB : Mem} {g : Gh} {κ σ : Sg} {A B s : Nat} {n : Int32} {W : Nat} {inn mv cd : Int32} {y5 y6 : Option Value} (hs : s < A * B) (h : IN A B s g n κ σ) (hW : WU W mv σ) (hu1 : U1 W σ) (hu2 : U2 W σ) (hin : σ 32 0 = inn) : KQ s0 l M_S_readSquare c hB 136 [some (.ref (gA g 6)), some (.int (nI s)), some (.int (inn)), some (.int (nI W)), some (.int (cd)), y5, y6] [] g κ (EQ (SI g) g κ (sqC A B s mv cd σ) (fun κ' => BT A B (s + 1) g n κ' (sqC A B s mv cd σ).2)) := by
  refine k_iload_n d_S_readSquare_136 rfl rfl ?_
  refine k_if_eq (tgt := 145) d_S_readSquare_137 (by decide) (fun c_137 => ?_) (fun c_137 => ?_)
  · skip
    refine k_iload d_S_readSquare_145 rfl ?_
    refine k_if_eq (tgt := 162) d_S_readSquare_147 (by decide) (fun c_147 => ?_) (fun c_147 => ?_)
    · skip
      refine k_iconst (v := nI 0) d_S_readSquare_162 (by decide) ?_
      refine k_istore d_S_readSquare_163 (Nat.le_of_ble_eq_true rfl) ?_
      have hi : σ 32 0 = 0 := hin.trans c_137
      have e9 : sqC A B s mv cd σ = sqD A B s mv (nI 0) σ := by
        unfold sqC
        rw [if_pos hi, if_pos c_147]
      rw [e9]
      exact s_sq_D hs h hW hu1 hu2 hin (fun z => absurd c_137 z)
    · skip
      refine k_aload_n d_S_readSquare_150 rfl rfl ?_
      refine k_getR d_S_readSquare_151 fS_28 rfl (al_0 (by decide)) rfl rfl ?_
      refine k_bipush (v := nI 6) d_S_readSquare_154 (by decide) ?_
      refine k_callT (As := [_]) d_S_readSquare_156 lS_42 mv_T_number rfl rfl (al_0 (by decide)) rfl rfl rfl (Nat.le_of_ble_eq_true rfl) (by decide) (t_number (n := 6) h.2.1 (by decide)) (fun w_156 => ?_) (fun w_156 x_156 => ?_)
      · skip
        have hi : σ 32 0 = 0 := hin.trans c_137
        have e9 : sqC A B s mv cd σ = sqD A B s mv (fNum 6 0 σ).1 (fNum 6 0 σ).2 := by
          unfold sqC
          rw [if_pos hi, if_neg c_147]
        have eN := tk_kp (tk_num 6 0 σ)
        have h' := h.read (tk_num 6 0 σ) (okR.num 6 0 h.2.1.1) w_156
        rw [e9]
        refine k_goto (tgt := 163) d_S_readSquare_159 (by decide) ?_
        refine k_istore d_S_readSquare_163 (Nat.le_of_ble_eq_true rfl) ?_
        exact KQ.mono (s_sq_D hs h' (hW.cs eN (by decide) (by decide) (by decide) (by decide)) (hu1.cs eN (by decide) (by decide)) (hu2.cs eN (by decide) (by decide)) ((eN 32 (by decide) 0).trans hin) (fun z => absurd c_137 z)) (fun o g' κ' z => EQ.up (S := SI g) (κ := κ) z (kpI (kp.su (S := [1]) (by decide)) (by decide)))
      · skip
        have hi : σ 32 0 = 0 := hin.trans c_137
        have e9 : sqC A B s mv cd σ = (nI 0, (fNum 6 0 σ).2) := by
          unfold sqC sqD
          rw [if_pos hi, if_neg c_147, if_pos w_156]
        rw [e9]
        exact EQ.thr0 in1 w_156 ⟨h.2.2.1, h.2.1.2.2.1⟩ (tk_kp (tk_num 6 0 σ))
  · skip
    refine k_bipush (v := nI 63) d_S_readSquare_140 (by decide) ?_
    refine k_goto (tgt := 163) d_S_readSquare_142 (by decide) ?_
    refine k_istore d_S_readSquare_163 (Nat.le_of_ble_eq_true rfl) ?_
    have hi : ¬ σ 32 0 = 0 := fun z => c_137 (hin.symm.trans z)
    have e9 : sqC A B s mv cd σ = sqD A B s mv (nI 63) σ := by
      unfold sqC
      rw [if_neg hi]
    rw [e9]
    exact s_sq_D hs h hW hu1 hu2 hin (fun _ => rfl)

theorem s_sq_B {s0 : State} {l : Launch} {c : Cx} {hB : Mem} {g : Gh} {κ σ : Sg} {A B s : Nat} {n : Int32} {W : Nat} {inn mv cd : Int32} {y5 y6 : Option Value} (hs : s < A * B) (h : IN A B s g n κ σ) (hW : WU W mv σ) (hu1 : U1 W σ) (hu2 : ∀ j, j < 2 → σ 28 (2 + j) = nI 0) (hin : σ 32 0 = inn) : KQ s0 l M_S_readSquare c hB 122 [some (.ref (gA g 6)), some (.int (nI s)), some (.int (inn)), some (.int (nI W)), some (.int (cd)), y5, y6] [] g κ (EQ (SI g) g κ (sqB A B s mv cd σ) (fun κ' => BT A B (s + 1) g n κ' (sqB A B s mv cd σ).2)) := by
  have hW4 := hW.lt
  have hw31 : ¬ σ 31 0 = 0 ↔ W % 2 = 1 := by
    rcases hW with ⟨x1, x2, x3, x4, x5⟩ | ⟨x1, x2, m, x3, x4, x5, x6, x7⟩ | ⟨x1, x2, x3, f, b, x4, x5, x6, x7, x8, x9⟩
    · exact ⟨fun z => absurd x5 z, fun z => by omega⟩
    · exact ⟨fun z => absurd x7 z, fun z => by omega⟩
    · rw [x9]
      rcases (show b = 0 ∨ b = 1 by omega) with rfl | rfl
      · exact ⟨fun z => absurd rfl z, fun z => by omega⟩
      · exact ⟨fun z => by omega, fun z => by decide⟩
  refine k_iload_n d_S_readSquare_122 rfl rfl ?_
  refine k_iconst (v := nI 1) d_S_readSquare_123 (by decide) ?_
  refine k_iand d_S_readSquare_124 ?_
  refine k_top (pk_andN (by omega) 1 (by decide)) ?_
  refine k_if_eq (tgt := 136) d_S_readSquare_125 (by decide) (fun c_125 => ?_) (fun c_125 => ?_)
  · skip
    have hW0 : ¬ W % 2 = 1 := fun z => by
      rw [show W % 2 ^ 1 = W % 2 from rfl, z] at c_125
      exact absurd c_125 (by decide)
    have e31 : σ 31 0 = 0 := Classical.byContradiction (fun z => hW0 (hw31.mp z))
    have e9 : sqB A B s mv cd σ = sqC A B s mv cd σ := if_pos e31
    rw [e9]
    exact s_sq_C hs h hW hu1 (fun j hj => by rw [if_neg hW0]; exact hu2 j hj) hin
  · skip
    have hW1 : W % 2 = 1 := by
      have : ¬ W % 2 = 0 := fun z => c_125 (by rw [show W % 2 ^ 1 = W % 2 from rfl, z]; rfl)
      omega
    have h341 : ¬ σ 34 0 = nI 1 := fun z => by
      rcases hW with ⟨-, x, -⟩ | ⟨-, x, -⟩ | ⟨-, x, -⟩
      · omega
      · rw [x] at z; exact absurd z (by decide)
      · rw [x] at z; exact absurd z (by decide)
    obtain ⟨R, hR, r2, r3⟩ := h.2.2.2.1.2.2.2 h341
    have e31 := hw31.mpr hW1
    refine k_aload_n d_S_readSquare_128 rfl rfl ?_
    refine k_aload_n d_S_readSquare_129 rfl rfl ?_
    refine k_getR d_S_readSquare_130 fS_25 rfl (al_0 (by decide)) rfl rfl ?_
    refine k_call (As := [_]) d_S_readSquare_133 lS_136 mv_S_readVector rfl rfl (al_0 (by decide)) rfl rfl rfl (Nat.le_of_ble_eq_true rfl) (by decide) (s_readVector (w := 1) hR (by decide) (h.VL hR r2 r3 (by decide))) (fun v_133 g_133 κ_133 q_133 => ?_) (fun E_133 g_133 κ_133 q_133 => ?_)
    · skip
      have hz := q_133.2.resolve_right (fun z => nomatch z.2.1)
      have hk := q_133.1
      obtain ⟨z1, z2, z3, z4, z5, z6, z7, z8⟩ := hz
      obtain rfl := Sum.inl.inj z2
      obtain rfl := z3.symm
      have eV := kp_vc (r := nI R) 2 2 σ
      have h' : IN A B s g n κ_133 (fVc (nI R) 2 2 σ).2 := h.vec (w := 1) hR r3 (by decide) hk eV (fun j hj => (vc29 2 2 σ j (by omega)).1) z5 z6 z7 z8
      have e9 : sqB A B s mv cd σ = sqC A B s mv cd (fVc (nI R) 2 2 σ).2 := by
        unfold sqB
        rw [if_neg e31, r3, if_neg z4]
      rw [e9]
      have hu1' : U1 W (fVc (nI R) 2 2 σ).2 := fun j hj => by
        rw [(vc29 2 2 σ j (by omega)).1, (vc29 2 2 σ j (by omega)).2]
        exact hu1 j hj
      have hu2' : U2 W (fVc (nI R) 2 2 σ).2 := fun j hj => by
        rw [if_pos hW1]
        exact z7.2 j hj
      exact KQ.mono (s_sq_C hs h' (hW.cs eV (by decide) (by decide) (by decide) (by decide)) hu1' hu2' ((eV 32 (by decide) 0).trans hin)) (fun o g' κ' z => EQ.up (S := SI g) (κ := κ) z (kpI hk (by decide)))
    · skip
      have hz := q_133.2.resolve_left (fun z => nomatch z.2.1)
      have hk := q_133.1
      obtain ⟨z1, z2, z3, z4, z5⟩ := hz
      obtain rfl := Sum.inr.inj z2
      obtain rfl := z3
      have f9 : (fVc (nI R) 2 2 σ).1 = 0 := (vc1 2 2 σ h.2.1.w).resolve_right (fun z => z z1)
      have e9 : sqB A B s mv cd σ = (nI 0, (fVc (nI R) 2 2 σ).2) := by
        unfold sqB
        rw [if_neg e31, r3, if_pos f9]
      rw [e9]
      exact ⟨kpI hk (by decide), Or.inr ⟨z1, rfl, rfl, rfl, z4, z5⟩⟩

theorem s_sq_A {s0 : State} {l : Launch} {c : Cx} {hB : Mem} {g : Gh} {κ σ : Sg} {A B s : Nat} {n : Int32} {W : Nat} {inn mv cd : Int32} {y5 y6 : Option Value} (hs : s < A * B) (h : IN A B s g n κ σ) (hW : WU W mv σ) (hz28 : ∀ j, j < 4 → σ 28 j = nI 0) (hin : σ 32 0 = inn) : KQ s0 l M_S_readSquare c hB 108 [some (.ref (gA g 6)), some (.int (nI s)), some (.int (inn)), some (.int (nI W)), some (.int (cd)), y5, y6] [] g κ (EQ (SI g) g κ (sqA A B s mv cd σ) (fun κ' => BT A B (s + 1) g n κ' (sqA A B s mv cd σ).2)) := by
  have hW4 := hW.lt
  have hwA : (¬ 2 ≤ W → sqA A B s mv cd σ = sqB A B s mv cd σ) ∧ (2 ≤ W → sqA A B s mv cd σ = sqV A B s mv cd σ) := by
    unfold sqA
    rcases hW with ⟨x1, x2, x3, x4, x5⟩ | ⟨x1, x2, m, x3, x4, x5, x6, x7⟩ | ⟨x1, x2, x3, f, b, x4, x5, x6, x7, x8, x9⟩
    · refine ⟨fun _ => ?_, fun z => by omega⟩
      rw [if_pos (show mv = 0 from x3), if_pos (show σ 30 0 = 0 from x4)]
      split <;> rfl
    · rw [if_pos x2]
      rcases (show m = 0 ∨ m = 1 by omega) with rfl | rfl
      · exact ⟨fun _ => if_pos x4, fun z => by omega⟩
      · exact ⟨fun z => by omega, fun _ => if_neg (by rw [x4]; decide)⟩
    · rw [if_neg (show ¬ σ 34 0 = nI 2 by rw [x2]; decide)]
      rcases (show f = 0 ∨ f = 1 by omega) with rfl | rfl
      · exact ⟨fun _ => if_pos x8, fun z => by omega⟩
      · exact ⟨fun z => by omega, fun _ => if_neg (by rw [x8]; decide)⟩
  refine k_iload_n d_S_readSquare_108 rfl rfl ?_
  refine k_iconst (v := nI 2) d_S_readSquare_109 (by decide) ?_
  refine k_iand d_S_readSquare_110 ?_
  refine k_if_eq (tgt := 122) d_S_readSquare_111 (by decide) (fun c_111 => ?_) (fun c_111 => ?_)
  · skip
    have hW2 : ¬ 2 ≤ W := Nat.not_le_of_lt ((and2 W hW4).mp c_111)
    rw [hwA.1 hW2]
    exact s_sq_B hs h hW (fun j hj => by rw [if_neg hW2]; exact hz28 j (by omega)) (fun j hj => hz28 _ (by omega)) hin
  · skip
    have hW2 : 2 ≤ W := Nat.le_of_not_lt (fun z => c_111 ((and2 W hW4).mpr z))
    have h341 : ¬ σ 34 0 = nI 1 := fun z => by
      rcases hW with ⟨-, x, -⟩ | ⟨-, x, -⟩ | ⟨-, x, -⟩
      · omega
      · rw [x] at z; exact absurd z (by decide)
      · rw [x] at z; exact absurd z (by decide)
    obtain ⟨R, hR, r2, r3⟩ := h.2.2.2.1.2.2.2 h341
    have e9a : sqA A B s mv cd σ = sqV A B s mv cd σ := (hwA).2 hW2
    refine k_aload_n d_S_readSquare_114 rfl rfl ?_
    refine k_aload_n d_S_readSquare_115 rfl rfl ?_
    refine k_getR d_S_readSquare_116 fS_22 rfl (al_0 (by decide)) rfl rfl ?_
    refine k_call (As := [_]) d_S_readSquare_119 lS_136 mv_S_readVector rfl rfl (al_0 (by decide)) rfl rfl rfl (Nat.le_of_ble_eq_true rfl) (by decide) (s_readVector (w := 0) hR (by decide) (h.VL hR r2 r3 (by decide))) (fun v_119 g_119 κ_119 q_119 => ?_) (fun E_119 g_119 κ_119 q_119 => ?_)
    · skip
      have hz := q_119.2.resolve_right (fun z => nomatch z.2.1)
      have hk := q_119.1
      obtain ⟨z1, z2, z3, z4, z5, z6, z7, z8⟩ := hz
      obtain rfl := Sum.inl.inj z2
      obtain rfl := z3.symm
      have eV := kp_vc (r := nI R) 2 0 σ
      have h' : IN A B s g n κ_119 (fVc (nI R) 2 0 σ).2 := h.vec (w := 0) hR r3 (by decide) hk eV (fun j hj => (vc29 2 0 σ j (by omega)).1) z5 z6 z7 z8
      have e9 : sqA A B s mv cd σ = sqB A B s mv cd (fVc (nI R) 2 0 σ).2 := by
        rw [e9a]
        unfold sqV
        rw [r3, if_neg z4]
      rw [e9]
      have hu1' : U1 W (fVc (nI R) 2 0 σ).2 := fun j hj => by
        rw [if_pos hW2]
        have := z7.2 j hj
        rw [show 2 * 0 + j = j by omega] at this
        exact this
      exact KQ.mono (s_sq_B hs h' (hW.cs eV (by decide) (by decide) (by decide) (by decide)) hu1' (fun j hj => by rw [(vc29 2 0 σ (2 + j) (by omega)).2]; exact hz28 _ (by omega)) ((eV 32 (by decide) 0).trans hin)) (fun o g' κ' z => EQ.up (S := SI g) (κ := κ) z (kpI hk (by decide)))
    · skip
      have hz := q_119.2.resolve_left (fun z => nomatch z.2.1)
      have hk := q_119.1
      obtain ⟨z1, z2, z3, z4, z5⟩ := hz
      obtain rfl := Sum.inr.inj z2
      obtain rfl := z3
      have f9 : (fVc (nI R) 2 0 σ).1 = 0 := (vc1 2 0 σ h.2.1.w).resolve_right (fun z => z z1)
      have e9 : sqA A B s mv cd σ = (nI 0, (fVc (nI R) 2 0 σ).2) := by
        rw [e9a]
        unfold sqV
        rw [r3, if_pos f9]
      rw [e9]
      exact ⟨kpI hk (by decide), Or.inr ⟨z1, rfl, rfl, rfl, z4, z5⟩⟩

