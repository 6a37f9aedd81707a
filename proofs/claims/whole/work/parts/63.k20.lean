/-! ===== read: with a handler ===== -/
def KX (s0 : State) (l : Launch) (M : MI) (c : Cx) (hB : Mem) (pc : Nat) (L : List (Option Value)) (E : String) (g : Gh) (κ : Sg) (P : Out → Gh → Sg → Prop) : Prop :=
  ∀ h, CF s0 c hB h g κ → RQX s0 l M hB pc L E h (fun o h' => ∃ g' κ', CF s0 c hB h' g' κ' ∧ P o g' κ')
section KX
variable {s0 : State} {l : Launch} {M M' : MI} {c : Cx} {hB : Mem} {pc : Nat} {L : List (Option Value)} {st0 rest : List Value} {g : Gh} {κ : Sg} {P P' : Out → Gh → Sg → Prop} {As : List Value}
theorem k_callX {i idx ci n : Nat} (hd : decode (iC M) pc = .ok (.invokevirtual idx, 3)) (hl : Cond.methodLink (iY M).cls idx (iY M') ∈ lw_tbl) (mv : MV M' ci n) (hH : iH M' = []) (hi : al g i) (hk : kdI i = ci + 1) (hn : As.length = n) (hs : st0 = As.reverse ++ .ref (gA g i) :: rest) (hw : (rest.map fun v => v.category).sum ≤ 8) (hr : iF M' + 1 ≤ iF M ∧ 8 + (iL M' + 11) + iW M' ≤ iW M)
    (hc : KC s0 l M' c (.ref (gA g i) :: As) g κ P') (k1 : ∀ v g' κ', P' (.inl v) g' κ' → KQ s0 l M c hB (pc + 3) L (v.toList ++ rest) g' κ' P) (k2 : ∀ E g' κ', P' (.inr E) g' κ' → KX s0 l M c hB pc L E g' κ' P) : KQ s0 l M c hB pc L st0 g κ P := fun h hM => by
  obtain ⟨b1, b2, b3, b4, b5⟩ := hM.1.1.2.2.2.1 i hi
  refine q_callV hd hl mv hH (b2.trans hk) hn hs hw hr (hc h hM.1) (fun v h1 q => ?_) (fun E0 h1 q => ?_)
  · obtain ⟨g', κ', hM', hp⟩ := q
    exact k1 v g' κ' hp h1 ⟨hM'.1, hM.2.trans hM'.2⟩
  · obtain ⟨g', κ', hM', hp⟩ := q
    exact k2 E0 g' κ' hp h1 ⟨hM'.1, hM.2.trans hM'.2⟩
theorem k_catch {E0 nm : String} {x : ExceptionTableEntry} {k9 : Fin 4} {i : Nat} (hone : tableOf (iH M) = [x]) (hx : covers x pc = true) (hc0 : x.catchType ≠ 0) (hl : Cond.classLink (iY M).cls x.catchType nm ∈ lw_tbl) (hcast : Cond.castable E0 nm ∈ lw_tbl) (hd : decode (iC M) x.handlerPc = .ok (.astore_n k9, 1)) (hi : (k9 : Nat) = i) (hn : i < L.length)
    (k : KQ s0 l M c hB (x.handlerPc + 1) (L.set i none) [] g κ P) : KX s0 l M c hB pc L E0 g κ P := fun h hM => q_catch hone hx hc0 hl hcast hd hi hn (k h hM)
theorem k_inH (hy : plainName (iY M).cls = true) (hH : iH M ≠ []) (hc : As.all (fun v => v.category == 1) = true) (hn : As.length ≤ iL M) (k : ∀ hB, KQ s0 l M c hB 0 (ent As (iL M)) [] g κ P) : KC s0 l M c As g κ P := fun h hM =>
  c_inH hy hH hc hn (k h h ⟨hM, frc.refl _ _⟩)
end KX
def RDP (g : Gh) (σF : Sg) (o : Out) (g' : Gh) (κ' : Sg) : Prop := o = .inl (some (.int (σF 22 0))) ∧ RL g' κ' σF ∧ gX g' ≤ gX g + 1 ∧ ∀ i, i < 13 → gA g' i = gA g i
theorem RDP.up {g g2 : Gh} {σF : Sg} {o : Out} {g' : Gh} {κ' : Sg} (h : RDP g2 σF o g' κ') (hX : gX g2 = gX g) (hA : ∀ i, i < 13 → gA g2 i = gA g i) : RDP g σF o g' κ' := ⟨h.1, h.2.1, by rw [← hX]; exact h.2.2.1, fun i hi => (h.2.2.2 i hi).trans (hA i hi)⟩

theorem x_rd_e {s0 : State} {l : Launch} {c : Cx} {hB : Mem} {g : Gh} {κ σF : Sg} {A B k e : Nat} {y1 : Option Value} (hG : okG g) (hC : CI g κ) (hA : okAB A B) (h2 : κ 3 2 = nI A) (h3 : κ 3 3 = nI B) (hln : 0 < κ 3 7 → ∀ p, p < 3 → wdN A p * wdN B p ≤ gL g (idD (gT g) p)) (hk : κ 4 2 = nI k) (hk2 : k < 2000) (hkc : k < 20 → k ≤ gC g) (h11 : κ 1 1 = nI e) (he : e ≤ 32000) (hF : ∀ g' κ', ((κ 3 7 ≤ 0 ∧ g' = g ∧ κ' = κ) ∨ (0 < κ 3 7 ∧ shP A B (gT g) k g κ g' κ')) → RL g' (su κ' 1 1 (nI 0)) σF ∧ κ' 1 1 = κ 1 1 ∧ κ' 4 2 = σF 22 0 ∧ (∀ i, i < 13 → gA g' i = gA g i) ∧ gX g' = gX g) : KQ s0 l M_X_read c hB 58 [some (.ref (gA g 0)), y1] [] g κ (fun o g' κ' => o = .inl (some (.int (σF 22 0))) ∧ RL g' κ' σF ∧ gX g' = gX g ∧ ∀ i, i < 13 → gA g' i = gA g i) := by
  refine k_aload_n d_X_read_58 rfl rfl ?_
  refine k_getR d_X_read_59 fX_19 rfl (al_0 (by decide)) rfl rfl ?_
  refine k_callX (As := []) d_X_read_62 lX_63 mv_R_finish rfl (al_0 (by decide)) rfl rfl rfl (Nat.le_of_ble_eq_true rfl) (by decide) (r_finish (A := A) (B := B) (k := k) hA hG hC h2 h3 hln hk (by omega) hkc) (fun v_62 g_62 κ_62 q_62 => ?_) (fun E_62 g_62 κ_62 q_62 => ?_)
  · skip
    obtain ⟨rfl2, hz⟩ := q_62
    obtain rfl := Sum.inl.inj rfl2
    obtain ⟨f1, f2, f3, f4, f5⟩ := hF g_62 κ_62 hz
    have e0 : gA g 0 = gA g_62 0 := (f4 0 (by decide)).symm
    show KQ s0 l M_X_read c hB 65 [some (.ref (gA g 0)), y1] [] g_62 κ_62 _
    rw [e0]
    refine k_aload_n d_X_read_65 rfl rfl ?_
    refine k_getR d_X_read_66 fX_10 rfl (al_0 (by decide)) rfl rfl ?_
    refine k_iconst (v := nI 0) d_X_read_69 (by decide) ?_
    refine k_callX (As := [_]) d_X_read_70 lX_36 mv_T_cut rfl (al_0 (by decide)) rfl rfl rfl (Nat.le_of_ble_eq_true rfl) (by decide) (t_cut (n := nI 0) (tb := e) ⟨f2.trans h11, he⟩) (fun v_70 g_70 κ_70 q_70 => ?_) (fun E_70 g_70 κ_70 q_70 => ?_)
    · skip
      obtain ⟨rfl2, rfl3, hκ⟩ := q_70
      obtain rfl := Sum.inl.inj rfl2
      obtain rfl := rfl3.symm
      have e9 : cCut κ_62 (nI 0) e = (nI 1, su κ_62 1 1 (nI 0)) := by
        unfold cCut
        rw [if_neg (by decide), if_pos (nI_le (Nat.zero_le _) (by omega))]
        rfl
      rw [e9] at hκ
      obtain rfl := hκ
      refine k_pop d_X_read_73 rfl ?_
      refine k_aload_n d_X_read_74 rfl rfl ?_
      refine k_getR d_X_read_75 fX_19 rfl (al_0 (by decide)) rfl rfl ?_
      refine k_getR d_X_read_78 fX_66 rfl (al_0 (by decide)) rfl rfl ?_
      refine k_iconst (v := nI 2) d_X_read_81 (by decide) ?_
      refine k_iaload d_X_read_82 (al_0 (by decide)) rfl (show vp_in _ 8 from vp_in_nI (show 2 < 8 by decide) (by decide)) ?_
      refine k_iret d_X_read_83 rfl rfl ?_
      refine ⟨?_, f1, f5, f4⟩
      show Sum.inl (some (Value.int (su κ_62 1 1 (nI 0) 4 2))) = _
      rw [su_k (by decide), f3]
    · skip
      exact nomatch q_70.1
  · skip
    exact nomatch q_62.1

theorem x_rd_o {s0 : State} {l : Launch} {c : Cx} {hB : Mem} {g : Gh} {κ σ : Sg} {A B N : Nat} {y1 : Option Value} (hO : OX A B g κ σ) (hB2 : TB κ σ) (h13 : κ 1 3 = σ 6 0) (hR : okR σ) (hb : b01s σ) (h20 : σ 2 0 = nI 0) (hsh : shN σ N) (hN : N < 1999) : KQ s0 l M_X_read c hB 58 [some (.ref (gA g 0)), y1] [] g κ (fun o g' κ' => o = .inl (some (.int (fFin A B σ 22 0))) ∧ RL g' κ' (fFin A B σ) ∧ gX g' = gX g ∧ ∀ i, i < 13 → gA g' i = gA g i) := by
  obtain ⟨p, e, hp, he, hpe, he2⟩ := hR.1
  obtain ⟨sh, s1, s2⟩ := hsh
  obtain ⟨L, l1, l2, l3, l4⟩ := hO.1.2.2.2.2.2.2.2
  refine x_rd_e (k := sh) hO.1.1 hO.1.2.2.1 hO.1.2.1 hO.1.2.2.2.1 hO.1.2.2.2.2.1 (fun z => ?_) ((hB2.1 2 (by decide)).trans s1) (by omega) (hO.2.2.2.hkc s1 (by omega)) (hB2.2.trans he) he2 (fun g' κ' h => hO.fin hB2 h13 hb h20 s1 (by omega) h)
  refine (hO.2.1 (fun y => ?_)).2.1
  have h9 := l3.mp y
  rw [l2, show L = 0 by omega] at z
  exact absurd z (by decide)

theorem x_rd_l {s0 : State} {l : Launch} {c : Cx} {hB : Mem} {A B : Nat} : ∀ (f n : Nat) (g : Gh) (κ σ : Sg), n + f ≤ 1001 → 32000 < at4 σ + 32 * f → OT A B g κ σ → shN σ n → b01s σ → σ 2 0 = nI 0 → KQ s0 l M_X_read c hB 23 [some (.ref (gA g 0)), some (.int (nI n))] [] g κ (RDP g (fFin A B (fSt A B f n σ))) := by
  intro f
  induction f with
  | zero =>
    intro n g κ σ hn ha hO hsh hb h20
    exfalso
    obtain ⟨p, e, hp, he, hpe, he2⟩ := hO.2.1.1.1
    unfold at4 at ha
    rw [hp, nI_toInt (by omega)] at ha
    omega
  | succ f ih =>
    intro n g κ σ hn ha hO hsh hb h20
    refine k_iload_n d_X_read_23 rfl rfl ?_
    refine k_sipush (v := nI 4000) d_X_read_24 (by decide) ?_
    refine k_icmp_ge (tgt := 54) d_X_read_27 (by decide) (fun c_27 => ?_) (fun c_27 => ?_)
    · exact absurd ((nI_leI (by decide) (by omega)).mp c_27) (by omega)
    · skip
      refine k_aload_n d_X_read_30 rfl rfl ?_
      refine k_getR d_X_read_31 fX_28 rfl (al_0 (by decide)) rfl rfl ?_
      refine k_callX (As := []) d_X_read_34 lX_53 mv_S_pictureComes rfl (al_0 (by decide)) rfl rfl rfl (Nat.le_of_ble_eq_true rfl) (by decide) (s_comes hO.2.1) (fun v_34 g_34 κ_34 q_34 => ?_) (fun E_34 g_34 κ_34 q_34 => ?_)
      · skip
        obtain ⟨w1, w2, w3, w4⟩ := Or.resolve_right q_34 (fun z => nomatch z.2.1)
        obtain rfl := Sum.inl.inj w2
        obtain rfl := w3.symm
        obtain rfl := w4
        have kI := tk_if (one := nI 256) (two := nI 439) 32 (nI 1) (nI 1) σ
        have hO1 := hO.read kI (okR.if1 32 (nI 1) (nI 1) hO.2.1.1) w1
        have a1 := if_at 32 (nI 1) (nI 1) hO.2.1.1 (by rw [w1]; decide)
        have e8 : fSt A B (f + 1) n σ = if (fIF (nI 256) (nI 439) 32 (nI 1) (nI 1) σ).1 = 0 then (fIF (nI 256) (nI 439) 32 (nI 1) (nI 1) σ).2 else if (fPic A B (fIF (nI 256) (nI 439) 32 (nI 1) (nI 1) σ).2).1 = 0 then fSt A B f (n + 1) (fPic A B (fIF (nI 256) (nI 439) 32 (nI 1) (nI 1) σ).2).2 else fSt A B f (n + 1) (fLd A B (nI n) (fPic A B (fIF (nI 256) (nI 439) 32 (nI 1) (nI 1) σ).2).2) := by
          rw [fSt, if_neg hO.2.1.w, if_neg (by rw [w1]; decide)]
        generalize fIF (nI 256) (nI 439) 32 (nI 1) (nI 1) σ = r at w1 kI hO1 a1 e8 ⊢
        refine k_if_eq (tgt := 54) d_X_read_37 (by decide) (fun c_37 => ?_) (fun c_37 => ?_)
        · skip
          refine k_goto (tgt := 58) d_X_read_54 (by decide) ?_
          rw [e8, if_pos c_37]
          have eI := tk_kp kI
          exact KQ.mono (x_rd_o hO1.1 ⟨hO1.2.2, hO1.2.1.2.2.1⟩ (hO1.2.1.2.2.2.2.2.trans w1.symm) hO1.2.1.1 (b01_kp hb eI (by decide)) ((eI 2 (by decide) 0).trans h20) (hsh.tk kI) (by omega)) (fun o g' κ' z => ⟨z.1, z.2.1, by rw [z.2.2.1]; omega, z.2.2.2⟩)
        · skip
          refine k_aload_n d_X_read_40 rfl rfl ?_
          refine k_getR d_X_read_41 fX_28 rfl (al_0 (by decide)) rfl rfl ?_
          refine k_iload_n d_X_read_44 rfl rfl ?_
          refine k_callX (As := [_]) d_X_read_45 lX_57 mv_S_readPicture rfl (al_0 (by decide)) rfl rfl rfl (Nat.le_of_ble_eq_true rfl) (by decide) (s_readPicture (A := A) (B := B) (n := nI n) hO1 (hsh.tk kI) (by omega)) (fun v_45 g_45 κ_45 q_45 => ?_) (fun E_45 g_45 κ_45 q_45 => ?_)
          · skip
            obtain ⟨hA1, hz⟩ := q_45
            have hz := hz.resolve_right (fun z => nomatch z.2.1)
            obtain ⟨z1, z2, z3, z4⟩ := hz
            obtain rfl := Sum.inl.inj z2
            have e0 : gA g 0 = gA g_45 0 := (hA1 0 (by decide)).symm
            rw [e8, if_neg c_37, if_neg z1]
            have kP := kq_pic A B r.2
            have kL := kp_ld A B (nI n) (fPic A B r.2).2
            first | refine k_iinc1 d_X_read_48 rfl ?_ | refine k_iinc d_X_read_48 rfl ?_
            refine k_goto (tgt := 23) d_X_read_51 (by decide) ?_
            show KQ s0 l M_X_read c hB 23 [some (.ref (gA g 0)), some (.int (nI (n + 1)))] [] g_45 κ_45 _
            rw [e0]
            have eI := tk_kp kI
            have a2 : at4 r.2 ≤ at4 (fPic A B r.2).2 := (kP.2 hO1.2.1.1).2
            have a3 : at4 (fLd A B (nI n) (fPic A B r.2).2) = at4 (fPic A B r.2).2 := by unfold at4; rw [kL 4 (by decide)]
            exact KQ.mono (ih (n + 1) g_45 κ_45 _ (by omega) (by rw [a3]; omega) z4 (((hsh.tk kI).q kP).ld (by omega)) (b01_kp (b01_kp (b01_kp hb eI (by decide)) kP.1 (by decide)) kL (by decide)) ((kL 2 (by decide) 0).trans ((kP.1 2 (by decide) 0).trans ((eI 2 (by decide) 0).trans h20)))) (fun o g' κ' z => RDP.up z z3 hA1)
          · skip
            obtain ⟨hA1, hz⟩ := q_45
            have hz := hz.resolve_left (fun z => nomatch z.2.1)
            obtain ⟨z1, z2, z3, z4⟩ := hz
            obtain rfl := Sum.inr.inj z2
            have e0 : gA g 0 = gA g_45 0 := (hA1 0 (by decide)).symm
            have kP := kq_pic A B r.2
            have eI := tk_kp kI
            obtain ⟨y1, y2, y3, y4, y5⟩ := z4
            rw [e8, if_neg c_37, if_pos z1, st_w y5]
            refine k_catch (x := ⟨14, 54, 57, 61⟩) rfl (by decide) (by decide) cX_61 w_castISE d_X_read_57 rfl (Nat.le_of_ble_eq_true rfl) ?_
            rw [e0]
            exact KQ.mono (x_rd_o y1 y2 y3 y4 (b01_kp (b01_kp hb eI (by decide)) kP.1 (by decide)) ((kP.1 2 (by decide) 0).trans ((eI 2 (by decide) 0).trans h20)) ((hsh.tk kI).q kP) (by omega)) (fun o g' κ' z => ⟨z.1, z.2.1, by rw [z.2.2.1, z3]; exact Nat.le_refl _, fun i hi => (z.2.2.2 i hi).trans (hA1 i hi)⟩)
      · skip
        obtain ⟨w1, w2, w3, x, w4⟩ := Or.resolve_left q_34 (fun z => nomatch z.2.1)
        obtain rfl := Sum.inr.inj w2
        obtain rfl := w3
        obtain rfl := w4
        have kI := tk_if (one := nI 256) (two := nI 439) 32 (nI 1) (nI 1) σ
        have hR1 := okR.if1 (one := nI 256) (two := nI 439) 32 (nI 1) (nI 1) hO.2.1.1
        have e8 : fSt A B (f + 1) n σ = (fIF (nI 256) (nI 439) 32 (nI 1) (nI 1) σ).2 := by
          rw [fSt, if_neg hO.2.1.w, if_pos w1]
        rw [e8]
        generalize fIF (nI 256) (nI 439) 32 (nI 1) (nI 1) σ = r at w1 kI hR1 ⊢
        have k1 : kp [1] κ (su (su κ 1 2 x) 1 3 (r.2 6 0)) := (kp.su (by decide)).trans (kp.su (by decide))
        have eI := tk_kp kI
        have hT5 : su (su κ 1 2 x) 1 3 (r.2 6 0) 1 1 = r.2 5 0 := by
          rw [su_j (by decide), su_j (by decide), hO.2.1.2.2.1]
          exact (eI 5 (by decide) 0).symm
        refine k_catch (x := ⟨14, 54, 57, 61⟩) rfl (by decide) (by decide) cX_61 w_castISE d_X_read_57 rfl (Nat.le_of_ble_eq_true rfl) ?_
        exact KQ.mono (x_rd_o (((hO.1.ck (k1.mono (T := SI g) (by simp))).cs (eI.mono (by decide))).gx) ⟨(hO.2.2.ck k1 (by decide)).cs eI (by decide), hT5⟩ (su_at _ _ _ _) hR1 (b01_kp hb eI (by decide)) ((eI 2 (by decide) 0).trans h20) (hsh.tk kI) (by omega)) (fun o g' κ' z => ⟨z.1, z.2.1, by rw [z.2.2.1]; exact Nat.le_refl _, z.2.2.2⟩)

