/-! ===== reading a picture ===== -/

theorem s_pe {s0 : State} {l : Launch} {c : Cx} {hB : Mem} {g : Gh} {κ σ : Sg} {A B N : Nat} {n : Int32} {y3 : Option Value} (hO : OT A B g κ σ) (hb : BT A B (A * B) g n κ σ) (hsh : shN σ N) (hN : N < 1999) : KQ s0 l M_S_readPicture c hB 72 [some (.ref (gA g 6)), some (.int n), some (.int (nI (A * B))), y3] [] g κ (RP A B n g (asE σ)) := by
  obtain ⟨p, e, hp, he, hpe, he2⟩ := hO.2.1.1.1
  have hp2 : p ≤ 32000 := by omega
  have eA : fAl 8 σ = fEx (nI 0) ((8 - p % 8) % 8) σ := al_ex 8 σ p hO.2.1.1 hp hp2 hO.2.1.2.2.2.1 (by omega)
  refine k_aload_n d_S_readPicture_72 rfl rfl ?_
  refine k_getR d_S_readPicture_73 fS_28 rfl (al_0 (by decide)) rfl rfl ?_
  refine k_callTv (As := []) d_S_readPicture_76 lS_51 mv_T_align rfl rfl (al_0 (by decide)) rfl rfl rfl (Nat.le_of_ble_eq_true rfl) (by decide) (t_align hO.2.1 hp hp2) (fun w_76 => ?_) (fun w_76 x_76 => ?_)
  · skip
    rw [← eA] at w_76 ⊢
    have hO1 := hO.read (tk_al 8 σ) (okR.al 8 hO.2.1.1) w_76
    have e' := tk_kp (tk_al 8 σ)
    have k1 : kp [1] κ (su κ 1 2 (fAl 8 σ 4 0)) := kp.su (by decide)
    obtain ⟨sh, s1, s2⟩ := hsh
    have s1' : fAl 8 σ 22 0 = nI sh := (e' 22 (by decide) 0).trans s1
    have hOX := hO1.1
    obtain ⟨L, l1, l2, l3, l4⟩ := hOX.1.2.2.2.2.2.2.2
    have hAll := hb.all
    have hF1 : FC g n (su κ 1 2 (fAl 8 σ 4 0)) (fAl 8 σ) := (hb.2.2.2.2.1.ck k1 (by simp; exact nF (by decide))).cs e' (by decide) (by decide) (by decide)
    have hD1 : DR A B (gN g) 9 (fun _ _ => True) (su κ 1 2 (fAl 8 σ 4 0)) (fAl 8 σ) := (hAll.1.ck k1 (fun p hp => by simp; exact nid (by decide))).cs e' (by decide)
    refine k_aload_n d_S_readPicture_79 rfl rfl ?_
    refine k_getR d_S_readPicture_80 fS_32 rfl (al_0 (by decide)) rfl rfl ?_
    refine k_call (As := []) d_S_readPicture_83 lS_82 mv_R_takeWhole rfl rfl (al_0 (by decide)) rfl rfl rfl (Nat.le_of_ble_eq_true rfl) (by decide) (r_takeWhole (A := A) (B := B) (k := sh) hOX.1.2.1 hOX.1.1 hOX.1.2.2.1 hOX.1.2.2.2.1 hOX.1.2.2.2.2.1 hAll.2 (fun z => (hOX.2.1 (fun y => by have h9 := l3.mp y; rw [l2, show L = 0 by omega] at z; exact absurd z (by decide))).2.1) ((hO1.2.2 2 (by decide)).trans s1') (by omega) (hOX.2.2.2.hkc s1' (by omega))) (fun v_83 g_83 κ_83 q_83 => ?_) (fun E_83 g_83 κ_83 q_83 => ?_)
    · skip
      obtain ⟨e9, hz⟩ := q_83
      obtain rfl := Sum.inl.inj e9
      refine k_vret d_S_readPicture_86 rfl ?_
      have er : ¬ (asE σ).1 = 0 := by unfold asE; rw [if_neg (by rw [w_76]; decide)]; exact (show ¬ nI 1 = 0 by decide)
      obtain ⟨hL, hx⟩ := hO1.land hD1 hAll.2 hF1 (hb.2.2.2.1.2.2.1.cs e' (by decide) (by decide) (by decide)) s1' (by omega) hz
      exact ⟨tkW_A hz, Or.inl ⟨er, rfl, hx, hL⟩⟩
    · skip
      exact nomatch q_83.1
  · skip
    rw [← eA] at w_76 ⊢
    have er : (asE σ).1 = 0 := by unfold asE; rw [if_pos w_76]; rfl
    refine ⟨fun _ _ => rfl, Or.inr ⟨er, rfl, rfl, ?_⟩⟩
    have k1 : kp [1] κ (su (su κ 1 2 x_76) 1 3 (fAl 8 σ 6 0)) := (kp.su (by decide)).trans (kp.su (by decide))
    have e' := tk_kp (tk_al 8 σ)
    refine ⟨((hO.1.ck (k1.mono (T := SI g) (by simp))).cs (e'.mono (by decide))).gx, ⟨(hO.2.2.ck k1 (by decide)).cs e' (by decide), ?_⟩, su_at _ _ _ _, okR.al 8 hO.2.1.1, w_76⟩
    show su (su κ 1 2 x_76) 1 3 _ 1 1 = fAl 8 σ 5 0
    rw [su_j (by decide), su_j (by decide), hO.2.1.2.2.1]
    exact (e' 5 (by decide) 0).symm

theorem s_px {s0 : State} {l : Launch} {c : Cx} {hB : Mem} {g : Gh} {κ σ : Sg} {A B N : Nat} {n : Int32} {a : Nat} (hO : OT A B g κ σ) (hb : BT A B (A * B) g n κ σ) (hsh : shN σ N) (hN : N < 1999) (ha : A * B ≤ a) (ha2 : a < 100) : KQ s0 l M_S_readPicture c hB 34 [some (.ref (gA g 6)), some (.int n), some (.int (nI (A * B))), some (.int (nI a))] [] g κ (RP A B n g (asE σ)) := by
  refine k_iload_n d_S_readPicture_34 rfl rfl ?_
  refine k_iload_n d_S_readPicture_35 rfl rfl ?_
  refine k_icmp_ge (tgt := 72) d_S_readPicture_36 (by decide) (fun c_36 => ?_) (fun c_36 => ?_)
  · skip
    exact s_pe hO hb hsh hN
  · exact absurd (nI_le (show A * B ≤ a by omega) (by omega)) c_36

theorem s_p1 {s0 : State} {l : Launch} {c : Cx} {hB : Mem} {g : Gh} {κ σ : Sg} {A B N : Nat} {n : Int32} {s : Nat} {P : Out → Gh → Sg → Prop} (hs : s < A * B) (hO : OT A B g κ σ) (hb : BT A B s g n κ σ) (hsh : shN σ N) (kt : (fSq A B s (fPa A s σ)).1 = 0 → ∀ κ', OW A B (gx g) κ' (fSq A B s (fPa A s σ)).2 → P (.inr ISE) (gx g) κ') (kk : ¬ (fSq A B s (fPa A s σ)).1 = 0 → ∀ κ', OT A B g κ' (fSq A B s (fPa A s σ)).2 → BT A B (s + 1) g n κ' (fSq A B s (fPa A s σ)).2 → shN (fSq A B s (fPa A s σ)).2 N → KQ s0 l M_S_readPicture c hB 34 [some (.ref (gA g 6)), some (.int n), some (.int (nI (A * B))), some (.int (nI (s + 1)))] [] g κ' P) : KQ s0 l M_S_readPicture c hB 56 [some (.ref (gA g 6)), some (.int n), some (.int (nI (A * B))), some (.int (nI s))] [] g κ P := by
  have hAB : A * B ≤ 16 := Nat.mul_le_mul hO.1.1.2.1.1.2 hO.1.1.2.1.2.2
  refine k_iload_n d_S_readPicture_56 rfl rfl ?_
  refine k_iload_n d_S_readPicture_57 rfl rfl ?_
  refine k_icmp_ge (tgt := 66) d_S_readPicture_58 (by decide) (fun c_58 => ?_) (fun c_58 => ?_)
  · exact absurd ((nI_leI (by omega) (by omega)).mp c_58) (by omega)
  · skip
    refine k_aload_n d_S_readPicture_61 rfl rfl ?_
    refine k_iload_n d_S_readPicture_62 rfl rfl ?_
    refine k_call (As := [_]) d_S_readPicture_63 lS_78 mv_S_readSquare rfl rfl (al_0 (by decide)) rfl rfl rfl (Nat.le_of_ble_eq_true rfl) (by decide) (s_readSquare hs hb) (fun v_63 g_63 κ_63 q_63 => ?_) (fun E_63 g_63 κ_63 q_63 => ?_)
    · skip
      have hz := q_63.2.resolve_right (fun z => nomatch z.2.2.1)
      have hk := q_63.1
      obtain ⟨z1, z2, z3, z4, z5⟩ := hz
      obtain rfl := Sum.inl.inj z3
      obtain rfl := z4.symm
      have eq1 : kq σ (fSq A B s (fPa A s σ)).2 := (kq_a A s σ).trans (kq_sq A B s _)
      have hO1 : OT A B g κ_63 (fSq A B s (fPa A s σ)).2 := ⟨(hO.1.ck hk).cs eq1.1, z5.2.1, z5.2.2.1⟩
      first | refine k_iinc1 d_S_readPicture_66 rfl ?_ | refine k_iinc d_S_readPicture_66 rfl ?_
      refine k_goto (tgt := 34) d_S_readPicture_69 (by decide) ?_
      exact kk z2 κ_63 hO1 z5 (hsh.q eq1)
    · skip
      have hz := q_63.2.resolve_left (fun z => nomatch z.2.2.1)
      have hk := q_63.1
      obtain ⟨z1, z2, z3, z4, z5, z6⟩ := hz
      obtain rfl := Sum.inr.inj z3
      obtain rfl := z4
      have eq1 : kq σ (fSq A B s (fPa A s σ)).2 := (kq_a A s σ).trans (kq_sq A B s _)
      exact kt z2 κ_63 ⟨((hO.1.ck hk).cs eq1.1).gx, z6, z5, (eq1.2 hO.2.1.1).1, z1⟩

theorem s_pl {s0 : State} {l : Launch} {c : Cx} {hB : Mem} {g : Gh} {A B N : Nat} {n : Int32} (hN : N < 1999) : ∀ (f s : Nat) (κ σ : Sg), A * B ≤ s + f → s ≤ A * B → OT A B g κ σ → BT A B s g n κ σ → shN σ N → KQ s0 l M_S_readPicture c hB 34 [some (.ref (gA g 6)), some (.int n), some (.int (nI (A * B))), some (.int (nI s))] [] g κ (RP A B n g (fAS A B f s σ)) := by
  intro f
  induction f with
  | zero =>
    intro s κ σ hf hs2 hO hb hsh
    have hAB : A * B ≤ 16 := Nat.mul_le_mul hO.1.1.2.1.1.2 hO.1.1.2.1.2.2
    refine k_iload_n d_S_readPicture_34 rfl rfl ?_
    refine k_iload_n d_S_readPicture_35 rfl rfl ?_
    refine k_icmp_ge (tgt := 72) d_S_readPicture_36 (by decide) (fun c_36 => ?_) (fun c_36 => ?_)
    · skip
      have es : s = A * B := by omega
      subst es
      rw [as_0 (Nat.le_refl _)]
      exact s_pe hO hb hsh hN
    · exact absurd (nI_le (show A * B ≤ s by omega) (by omega)) c_36
  | succ f ih =>
    intro s κ σ hf hs2 hO hb hsh
    have hAB : A * B ≤ 16 := Nat.mul_le_mul hO.1.1.2.1.1.2 hO.1.1.2.1.2.2
    refine k_iload_n d_S_readPicture_34 rfl rfl ?_
    refine k_iload_n d_S_readPicture_35 rfl rfl ?_
    refine k_icmp_ge (tgt := 72) d_S_readPicture_36 (by decide) (fun c_36 => ?_) (fun c_36 => ?_)
    · skip
      have es : s = A * B := by
        have := (nI_leI (by omega) (by omega)).mp c_36
        omega
      subst es
      rw [as_0 (Nat.le_refl _)]
      exact s_pe hO hb hsh hN
    · skip
      refine k_aload_n d_S_readPicture_39 rfl rfl ?_
      refine k_get d_S_readPicture_40 fS_61 rfl (al_0 (by decide)) rfl ?_
      refine k_iconst (v := nI 1) d_S_readPicture_43 (by decide) ?_
      refine k_icmp_eq (tgt := 56) d_S_readPicture_44 (by decide) (fun c_44 => ?_) (fun c_44 => ?_)
      · skip
        have h1 : σ 34 0 = nI 1 := hb.2.2.2.1.1.symm.trans c_44
        have hs : s < A * B := by
          rcases Nat.lt_or_ge s (A * B) with q | q
          · exact q
          · exact absurd (nI_le q (by omega)) c_36
        rw [as_1 hs h1]
        refine s_p1 hs hO hb hsh (fun k1 κ' k2 => ?_) (fun k1 κ' k2 k3 k4 => ?_)
        · rw [if_pos k1]
          exact ⟨fun _ _ => rfl, Or.inr ⟨rfl, rfl, rfl, k2⟩⟩
        · rw [if_neg k1]
          exact ih (s + 1) κ' _ (by omega) (by omega) k2 k3 k4
      · skip
        have hs : s < A * B := by
          rcases Nat.lt_or_ge s (A * B) with q | q
          · exact q
          · exact absurd (nI_le q (by omega)) c_36
        have h1 : ¬ σ 34 0 = nI 1 := fun z => c_44 (hb.2.2.2.1.1.trans z)
        have h123 : σ 34 0 = nI 2 ∨ σ 34 0 = nI 3 := hb.2.2.2.1.2.2.1.1.resolve_left h1
        refine k_iload_n d_S_readPicture_47 rfl rfl ?_
        refine k_aload_n d_S_readPicture_48 rfl rfl ?_
        refine k_iload_n d_S_readPicture_49 rfl rfl ?_
        refine k_iload_n d_S_readPicture_50 rfl rfl ?_
        refine k_call (As := [_, _]) d_S_readPicture_51 lS_74 mv_S_passOver rfl rfl (al_0 (by decide)) rfl rfl rfl (Nat.le_of_ble_eq_true rfl) (by decide) (s_passOver hs hb h1) (fun v_51 g_51 κ_51 q_51 => ?_) (fun E_51 g_51 κ_51 q_51 => ?_)
        · skip
          have hz := q_51.2.resolve_right (fun z => nomatch z.2.2.1)
          have hk := q_51.1
          obtain ⟨z1, z2, z3, m, z4, z5, z6, z7⟩ := hz
          obtain rfl := Sum.inl.inj z6
          obtain rfl := z3.symm
          have eq1 := kq_po A B s σ
          have hO1 : OT A B g κ_51 (fPo A B s σ).2 := ⟨(hO.1.ck hk).cs eq1.1, z7.2.1, z7.2.2.1⟩
          have e9 := (as_2 (f := f) (m := m) hs h123).2 z2 z4 (by omega)
          rw [e9]
          refine k_iaddN d_S_readPicture_54  ?_
          refine k_istore_n d_S_readPicture_55 rfl (Nat.le_of_ble_eq_true rfl) ?_
          by_cases hm : s + m = A * B
          · rw [if_pos hm]
            rw [hm] at z7 ⊢
            refine k_iload_n d_S_readPicture_56 rfl rfl ?_
            refine k_iload_n d_S_readPicture_57 rfl rfl ?_
            refine k_icmp_ge (tgt := 66) d_S_readPicture_58 (by decide) (fun c_58 => ?_) (fun c_58 => absurd (nI_le (Nat.le_refl _) (by omega)) c_58)
            first | refine k_iinc1 d_S_readPicture_66 rfl ?_ | refine k_iinc d_S_readPicture_66 rfl ?_
            refine k_goto (tgt := 34) d_S_readPicture_69 (by decide) ?_
            exact s_px hO1 z7 (hsh.q eq1) hN (by omega) (by omega)
          · rw [if_neg hm]
            refine s_p1 (s := s + m) (by omega) hO1 z7 (hsh.q eq1) (fun k1 κ' k2 => ?_) (fun k1 κ' k2 k3 k4 => ?_)
            · rw [if_pos k1]
              exact ⟨fun _ _ => rfl, Or.inr ⟨rfl, rfl, rfl, k2⟩⟩
            · rw [if_neg k1]
              exact ih (s + m + 1) κ' _ (by omega) (by omega) k2 k3 k4
        · skip
          have hz := q_51.2.resolve_left (fun z => by obtain ⟨-, -, -, m, -, -, z6, -⟩ := z; exact nomatch z6)
          have hk := q_51.1
          obtain ⟨z1, z2, z3, z4, z5, z6⟩ := hz
          obtain rfl := Sum.inr.inj z3
          obtain rfl := z4
          have eq1 := kq_po A B s σ
          rw [(as_2 (f := f) (m := 0) hs h123).1 z2]
          exact ⟨fun _ _ => rfl, Or.inr ⟨rfl, rfl, rfl, ((hO.1.ck hk).cs eq1.1).gx, z6, z5, (eq1.2 hO.2.1.1).1, z1⟩⟩

theorem RP.of {A B : Nat} {n : Int32} {g g2 : Gh} {σ : Sg} {o : Out} {g' : Gh} {κ' : Sg} (hA : ∀ i, i < 13 → gA g2 i = gA g i) (hX : gX g2 = gX g) (h1 : ¬ (hdR σ).1 = 0) (h : RP A B n g2 (fAS A B 16 0 (hdR σ).2) o g' κ') : RP A B n g (fPic A B σ) o g' κ' := by
  obtain ⟨a, b⟩ := h
  refine ⟨fun i hi => (a i hi).trans (hA i hi), ?_⟩
  rw [pic_hd, if_neg h1]
  rcases b with ⟨b1, b2, b3, b4⟩ | ⟨b1, b2, b3, b4⟩
  · rw [if_neg b1]
    exact Or.inl ⟨(show ¬ nI 1 = 0 by decide), b2, b3.trans hX, b4⟩
  · rw [if_pos b1]
    exact Or.inr ⟨rfl, b2, by rw [b3, hX], b4⟩

theorem kq_hd (σ : Sg) : kq σ (hdR σ).2 := by
  unfold hdR
  split
  · exact kq_pS σ
  · split
    · exact (kq_pS σ).trans (kq_fW _ _)
    · split
      · exact ((kq_pS σ).trans (kq_pQ _)).trans (kq_pP _)
      · exact ((kq_pS σ).trans (kq_pQ _)).trans (kq_pP _)
theorem HR.gk {κ κ' σ : Sg} (h : HR σ κ) (e : ∀ i, i < 20 → ∀ j, κ' i j = κ i j) : HR σ κ' := by
  obtain ⟨⟨t1, t2, t3, t4, t5, t6⟩, h2, ⟨d1, d2, d3, d4⟩, h4⟩ := h
  refine ⟨⟨t1, (e 1 (by decide) 2).trans t2, (e 1 (by decide) 1).trans t3, t4, fun x j q1 q2 q3 => ?_, (e 1 (by decide) 3).trans t6⟩, fun j hj => (e 4 (by decide) j).trans (h2 j hj), ⟨(e 6 (by decide) 6).trans d1, (e 6 (by decide) 7).trans d2, d3, fun z => ?_⟩, h4⟩
  · rw [t5 x j q1 q2 q3]
    unfold bitv
    rw [e 2 (by decide)]
  · obtain ⟨R, r1, r2, r3⟩ := d4 z
    exact ⟨R, r1, (e 6 (by decide) 8).trans r2, r3⟩

theorem s_readPicture {s0 : State} {l : Launch} {c : Cx} {g : Gh} {κ : Sg} {σ : Sg} {A B N : Nat} {n : Int32} (hO : OT A B g κ σ) (hsh : shN σ N) (hN : N < 1999) : KC s0 l M_S_readPicture c [.ref (gA g 6), .int n] g κ (RP A B n g (fPic A B σ)) := by
  refine k_in (by decide) rfl rfl (Nat.le_of_ble_eq_true rfl) (fun hB => ?_)
  refine k_aload_n d_S_readPicture_0 rfl rfl ?_
  refine k_call (As := []) d_S_readPicture_1 lS_58 mv_S_readHead rfl rfl (al_0 (by decide)) rfl rfl rfl (Nat.le_of_ble_eq_true rfl) (by decide) (s_readHead hO.2.1 hO.2.2 hO.1.1.2.2.2.2.2.2.2) (fun v_1 g_1 κ_1 q_1 => ?_) (fun E_1 g_1 κ_1 q_1 => ?_)
  · skip
    have hz := q_1.2.resolve_right (fun z => nomatch z.2.2.1)
    have hk := q_1.1
    obtain ⟨z1, z2, z3, z4, z5⟩ := hz
    obtain rfl := Sum.inl.inj z3
    obtain rfl := z4.symm
    have hq1 : kq σ (hdR σ).2 := kq_hd σ
    have hO1 : OX A B g κ_1 (hdR σ).2 := (hO.1.ck (kpI hk (by decide))).cs hq1.1
    refine k_aload_n d_S_readPicture_4 rfl rfl ?_
    refine k_getR d_S_readPicture_5 fS_32 rfl (al_0 (by decide)) rfl rfl ?_
    refine k_aload_n d_S_readPicture_8 rfl rfl ?_
    refine k_get d_S_readPicture_9 fS_61 rfl (al_0 (by decide)) rfl ?_
    refine k_iload_n d_S_readPicture_12 rfl rfl ?_
    refine k_call (As := [_, _]) d_S_readPicture_13 lS_65 mv_R_begin rfl rfl (al_0 (by decide)) rfl rfl rfl (Nat.le_of_ble_eq_true rfl) (by decide) (r_begin (A := A) (B := B) hO1.1.1 hO1.1.2.1 hO1.1.2.2.1 hO1.1.2.2.2.1 hO1.1.2.2.2.2.1) (fun v_13 g_13 κ_13 q_13 => ?_) (fun E_13 g_13 κ_13 q_13 => ?_)
    · skip
      obtain ⟨e9, κ1, hz, hκ⟩ := q_13
      obtain rfl := Sum.inl.inj e9
      have hkF : kp [idF (gN g)] κ1 κ_13 := by
        rw [hκ]
        exact (((kp.su (by simp)).trans (kp.su (by simp))).trans (kp.su (by simp))).trans (kp.su (by simp))
      obtain ⟨b1, b2, b3, b4, b5, b6⟩ := hO1.begin hz hkF
      have hHR : HR (hdR σ).2 κ_13 := z5.gk b5
      have hf : ∀ j v, κ_13 (idF (gN g)) j = v → κ_13 (idF (gN g_13)) j = v := fun j v q => by rw [b3]; exact q
      have hBT : BT A B 0 g_13 n κ_13 (hdR σ).2 := BT.new (b1.sx b2) hHR (hf 0 _ (by rw [hκ, su_j (by decide), su_j (by decide), su_j (by decide), su_at]; exact z5.2.2.1.1)) (hf 1 _ (by rw [hκ, su_j (by decide), su_j (by decide), su_at])) (hf 2 _ (by rw [hκ, su_j (by decide), su_at])) (hf 3 _ (by rw [hκ, su_at]))
      have e6 : gA g 6 = gA g_13 6 := (b6 6 (by decide)).symm
      have c32 : κ_13 3 2 = nI A := b1.1.2.2.2.1
      have c33 : κ_13 3 3 = nI B := b1.1.2.2.2.2.1
      have hAB : A * B ≤ 16 := Nat.mul_le_mul b1.1.2.1.1.2 b1.1.2.1.2.2
      show KQ s0 l M_S_readPicture c hB 16 [some (.ref (gA g 6)), some (.int n), none, none] [] g_13 κ_13 _
      rw [e6]
      refine k_aload_n d_S_readPicture_16 rfl rfl ?_
      refine k_getR d_S_readPicture_17 fS_32 rfl (al_0 (by decide)) rfl rfl ?_
      refine k_getE d_S_readPicture_20 fS_68 rfl (al_0 (by decide)) rfl c32 ?_
      refine k_aload_n d_S_readPicture_23 rfl rfl ?_
      refine k_getR d_S_readPicture_24 fS_32 rfl (al_0 (by decide)) rfl rfl ?_
      refine k_getE d_S_readPicture_27 fS_71 rfl (al_0 (by decide)) rfl c33 ?_
      refine k_imulN d_S_readPicture_30  ?_
      refine k_istore_n d_S_readPicture_31 rfl (Nat.le_of_ble_eq_true rfl) ?_
      refine k_iconst (v := nI 0) d_S_readPicture_32 (by decide) ?_
      refine k_istore_n d_S_readPicture_33 rfl (Nat.le_of_ble_eq_true rfl) ?_
      exact KQ.mono (s_pl hN 16 0 _ _ (by omega) (Nat.zero_le _) ⟨b1, hBT.2.1, hBT.2.2.1⟩ hBT (hsh.q hq1)) (fun o g' κ' z => RP.of (fun i hi => b6 i (by omega)) b4 z2 z)
    · skip
      exact nomatch q_13.1
  · skip
    have hz := q_1.2.resolve_left (fun z => nomatch z.2.2.1)
    have hk := q_1.1
    obtain ⟨z1, z2, z3, z4, z5, z6⟩ := hz
    obtain rfl := Sum.inr.inj z3
    obtain rfl := z4
    have hq1 : kq σ (hdR σ).2 := kq_hd σ
    unfold RP
    rw [pic_hd, if_pos z2]
    exact ⟨fun _ _ => rfl, Or.inr ⟨rfl, rfl, rfl, ((hO.1.ck (kpI hk (by decide))).cs hq1.1).gx, z6, z5, (hq1.2 hO.2.1.1).1, z1⟩⟩

