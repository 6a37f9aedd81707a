/-! ===== reading a square: its head ===== -/
theorem EQ.thr1 {S : List Nat} {g : Gh} {κ σ τ : Sg} {R : Sg → Prop} {x v : Int32} {k : Nat} (h1 : 1 ∈ S) (w : 0 ≤ τ 6 0) (hk : k = 30 ∨ k = 35) (ha : TB κ σ) (ht : kp [4, 6] σ τ) : EQ S g κ (nI 0, su τ k 0 v) R (.inr ISE) (gx g) (su (su κ 1 2 x) 1 3 (τ 6 0)) := EQ.thr (τ := τ) h1 w rfl (show su τ k 0 v 6 0 = τ 6 0 from su_k (by omega)) rfl ha (fun j hj => (show su τ k 0 v j 0 = τ j 0 from su_k (by omega)).trans (ht j (by simp; omega) 0))

theorem s_sq_8 {s0 : State} {l : Launch} {c : Cx} {hB : Mem} {g : Gh} {κ σ : Sg} {A B s : Nat} {n : Int32} {W : Nat} {inn mv cd : Int32} {y5 y6 : Option Value} (hs : s < A * B) (h : IN A B s g n κ σ) (hW : WU W mv σ) (hin : σ 32 0 = inn) : KQ s0 l M_S_readSquare c hB 80 [some (.ref (gA g 6)), some (.int (nI s)), some (.int (inn)), some (.int (nI W)), some (.int (cd)), y5, y6] [] g κ (EQ (SI g) g κ (sq8 A B s mv cd σ) (fun κ' => BT A B (s + 1) g n κ' (sq8 A B s mv cd σ).2)) := by
  refine k_iload d_S_readSquare_80 rfl ?_
  refine k_if_eq (tgt := 108) d_S_readSquare_82 (by decide) (fun c_82 => ?_) (fun c_82 => ?_)
  · skip
    have e9 : sq8 A B s mv cd σ = sq9 A B s mv cd σ := if_pos c_82
    have eZ := kp_zv σ
    have hw9 : ¬ 0 ≤ σ 6 0 := h.2.1.w
    have e8 : sq9 A B s mv cd σ = sqA A B s mv cd (fZv σ 4) := if_neg hw9
    have hI : IN A B s g n κ (fZv σ 4) := h.flag (eZ.mono (by decide))
    rw [e9, e8]
    exact s_sq_A hs hI (hW.cs eZ (by decide) (by decide) (by decide) (by decide)) (fun j hj => fZv_0' hj) ((eZ 32 (by decide) 0).trans hin)
  · skip
    refine k_aload_n d_S_readSquare_85 rfl rfl ?_
    refine k_getR d_S_readSquare_86 fS_28 rfl (al_0 (by decide)) rfl rfl ?_
    refine k_callT (As := []) d_S_readSquare_89 lS_54 mv_T_next rfl rfl (al_0 (by decide)) rfl rfl rfl (Nat.le_of_ble_eq_true rfl) (by decide) (t_next h.2.1) (fun w_89 => ?_) (fun w_89 x_89 => ?_)
    · skip
      have h1 := h.read (tk_bit σ) h.2.1.1.bit w_89
      have e1 := tk_kp (tk_bit σ)
      refine k_iconst (v := nI 1) d_S_readSquare_92 (by decide) ?_
      refine k_icmp_ne (tgt := 108) d_S_readSquare_93 (by decide) (fun c_93 => ?_) (fun c_93 => ?_)
      · skip
        have e9 : sq8 A B s mv cd σ = sq9 A B s mv cd (fBit σ).2 := by
          unfold sq8
          rw [if_neg c_82, if_neg c_93]
        have eZ := kp_zv (fBit σ).2
        have hw9 : ¬ 0 ≤ (fBit σ).2 6 0 := h1.2.1.w
        have e8 : sq9 A B s mv cd (fBit σ).2 = sqA A B s mv cd (fZv (fBit σ).2 4) := if_neg hw9
        have hI : IN A B s g n (su κ 1 2 ((fBit σ).2 4 0)) (fZv (fBit σ).2 4) := h1.flag (eZ.mono (by decide))
        rw [e9, e8]
        exact KQ.mono (s_sq_A hs hI ((hW.cs e1 (by decide) (by decide) (by decide) (by decide)).cs eZ (by decide) (by decide) (by decide) (by decide)) (fun j hj => fZv_0' hj) ((eZ 32 (by decide) 0).trans ((e1 32 (by decide) 0).trans hin))) (fun o g' κ' z => EQ.up (S := SI g) (κ := κ) z (kpI (kp.su (S := [1]) (by decide)) (by decide)))
      · skip
        refine k_aload_n d_S_readSquare_96 rfl rfl ?_
        refine k_aload_n d_S_readSquare_97 rfl rfl ?_
        refine k_getR d_S_readSquare_98 fS_28 rfl (al_0 (by decide)) rfl rfl ?_
        refine k_iconst (v := nI 5) d_S_readSquare_101 (by decide) ?_
        refine k_callT (As := [_]) d_S_readSquare_102 lS_88 mv_T_nonZero rfl rfl (al_0 (by decide)) rfl rfl rfl (Nat.le_of_ble_eq_true rfl) (by decide) (t_nonZero (n := 5) h1.2.1 (by decide) (by decide)) (fun w_102 => ?_) (fun w_102 x_102 => ?_)
        · skip
          have h2 := (h1.read (tk_na 5 _) (okR.na h1.2.1.1) w_102).quant (v := (fNA 5 (fBit σ).2).1)
          have e2 := tk_kp (tk_na 5 (fBit σ).2)
          refine k_put d_S_readSquare_105 fS_97 rfl (al_0 (by decide)) rfl rfl rfl rfl ?_
          have e9 : sq8 A B s mv cd σ = sq9 A B s mv cd (su (fNA 5 (fBit σ).2).2 35 0 (fNA 5 (fBit σ).2).1) := by
            unfold sq8
            rw [if_neg c_82, if_pos c_93]
          have e3 : kp [35] (fNA 5 (fBit σ).2).2 (su (fNA 5 (fBit σ).2).2 35 0 (fNA 5 (fBit σ).2).1) := kp.su (by decide)
          have eZ := kp_zv (su (fNA 5 (fBit σ).2).2 35 0 (fNA 5 (fBit σ).2).1)
          have hw9 : ¬ 0 ≤ (su (fNA 5 (fBit σ).2).2 35 0 (fNA 5 (fBit σ).2).1) 6 0 := h2.2.1.w
          have e8 : sq9 A B s mv cd (su (fNA 5 (fBit σ).2).2 35 0 (fNA 5 (fBit σ).2).1) = sqA A B s mv cd (fZv (su (fNA 5 (fBit σ).2).2 35 0 (fNA 5 (fBit σ).2).1) 4) := if_neg hw9
          have hI : IN A B s g n _ (fZv (su (fNA 5 (fBit σ).2).2 35 0 (fNA 5 (fBit σ).2).1) 4) := h2.flag (eZ.mono (by decide))
          rw [e9, e8]
          exact KQ.mono (s_sq_A hs hI ((((hW.cs e1 (by decide) (by decide) (by decide) (by decide)).cs e2 (by decide) (by decide) (by decide) (by decide)).cs e3 (by decide) (by decide) (by decide) (by decide)).cs eZ (by decide) (by decide) (by decide) (by decide)) (fun j hj => fZv_0' hj) ((eZ 32 (by decide) 0).trans ((e3 32 (by decide) 0).trans ((e2 32 (by decide) 0).trans ((e1 32 (by decide) 0).trans hin))))) (fun o g' κ' z => EQ.up (S := SI g) (κ := κ) z (kpI (kasu (S := [1, 6]) (by decide) (kasu (by decide) (kp.su (by decide)))) (by decide)))
        · skip
          have e9 : sq8 A B s mv cd σ = (nI 0, su (fNA 5 (fBit σ).2).2 35 0 (fNA 5 (fBit σ).2).1) := by
            unfold sq8
            rw [if_neg c_82, if_pos c_93, sq9_w (by rw [su_k (by decide)]; exact w_102)]
          rw [e9]
          refine EQ.up (S := SI g) (κ1 := su κ 1 2 ((fBit σ).2 4 0)) (EQ.thr1 in1 w_102 (Or.inr rfl) ⟨h1.2.2.1, h1.2.1.2.2.1⟩ (tk_kp (tk_na 5 (fBit σ).2))) (kpI (kp.su (S := [1]) (by decide)) (by decide))
    · skip
      have e9 : sq8 A B s mv cd σ = (nI 0, (fBit σ).2) := by
        unfold sq8
        rw [if_neg c_82, bit_0w h.2.1 w_89, if_neg (show ¬ (0 : Int32) = nI 1 by decide), sq9_w w_89]
      rw [e9]
      exact EQ.thr0 in1 w_89 ⟨h.2.2.1, h.2.1.2.2.1⟩ (tk_kp (tk_bit σ))

theorem s_sq_7 {s0 : State} {l : Launch} {c : Cx} {hB : Mem} {g : Gh} {κ σ : Sg} {A B s : Nat} {n : Int32} {W : Nat} {inn mv : Int32} {y4 y5 y6 : Option Value} (hs : s < A * B) (h : IN A B s g n κ σ) (hW : WU W mv σ) (hin : σ 32 0 = inn) : KQ s0 l M_S_readSquare c hB 58 [some (.ref (gA g 6)), some (.int (nI s)), some (.int (inn)), some (.int (nI W)), y4, y5, y6] [] g κ (EQ (SI g) g κ (sq7 A B s mv σ) (fun κ' => BT A B (s + 1) g n κ' (sq7 A B s mv σ).2)) := by
  refine k_iload_n d_S_readSquare_58 rfl rfl ?_
  refine k_if_ne (tgt := 73) d_S_readSquare_59 (by decide) (fun c_59 => ?_) (fun c_59 => ?_)
  · skip
    refine k_iconst (v := nI 1) d_S_readSquare_73 (by decide) ?_
    refine k_goto (tgt := 78) d_S_readSquare_74 (by decide) ?_
    refine k_istore d_S_readSquare_78 (Nat.le_of_ble_eq_true rfl) ?_
    have hi : ¬ σ 32 0 = 0 := fun z => c_59 (hin.symm.trans z)
    have e9 : sq7 A B s mv σ = sq8 A B s mv (nI 1) σ := if_neg hi
    rw [e9]
    exact s_sq_8 hs h hW hin
  · skip
    refine k_aload_n d_S_readSquare_62 rfl rfl ?_
    refine k_getR d_S_readSquare_63 fS_28 rfl (al_0 (by decide)) rfl rfl ?_
    refine k_callT (As := []) d_S_readSquare_66 lS_54 mv_T_next rfl rfl (al_0 (by decide)) rfl rfl rfl (Nat.le_of_ble_eq_true rfl) (by decide) (t_next h.2.1) (fun w_66 => ?_) (fun w_66 x_66 => ?_)
    · skip
      have h1 := h.read (tk_bit σ) h.2.1.1.bit w_66
      have e1 := tk_kp (tk_bit σ)
      have hi : σ 32 0 = 0 := hin.trans c_59
      refine k_iconst (v := nI 1) d_S_readSquare_69 (by decide) ?_
      refine k_icmp_ne (tgt := 77) d_S_readSquare_70 (by decide) (fun c_70 => ?_) (fun c_70 => ?_)
      · skip
        refine k_iconst (v := nI 0) d_S_readSquare_77 (by decide) ?_
        refine k_istore d_S_readSquare_78 (Nat.le_of_ble_eq_true rfl) ?_
        have e9 : sq7 A B s mv σ = sq8 A B s mv (nI 0) (fBit σ).2 := by
          unfold sq7
          rw [if_pos hi, if_neg c_70]
        rw [e9]
        exact KQ.mono (s_sq_8 hs h1 (hW.cs e1 (by decide) (by decide) (by decide) (by decide)) ((e1 32 (by decide) 0).trans hin)) (fun o g' κ' z => EQ.up (S := SI g) (κ := κ) z (kpI (kp.su (S := [1]) (by decide)) (by decide)))
      · skip
        refine k_iconst (v := nI 1) d_S_readSquare_73 (by decide) ?_
        refine k_goto (tgt := 78) d_S_readSquare_74 (by decide) ?_
        refine k_istore d_S_readSquare_78 (Nat.le_of_ble_eq_true rfl) ?_
        have e9 : sq7 A B s mv σ = sq8 A B s mv (nI 1) (fBit σ).2 := by
          unfold sq7
          rw [if_pos hi, if_pos c_70]
        rw [e9]
        exact KQ.mono (s_sq_8 hs h1 (hW.cs e1 (by decide) (by decide) (by decide) (by decide)) ((e1 32 (by decide) 0).trans hin)) (fun o g' κ' z => EQ.up (S := SI g) (κ := κ) z (kpI (kp.su (S := [1]) (by decide)) (by decide)))
    · skip
      have hi : σ 32 0 = 0 := hin.trans c_59
      have e9 : sq7 A B s mv σ = (nI 0, (fBit σ).2) := by
        unfold sq7
        rw [if_pos hi, bit_0w h.2.1 w_66, if_neg (show ¬ (0 : Int32) = nI 1 by decide), sq8_w w_66]
      rw [e9]
      exact EQ.thr0 in1 w_66 ⟨h.2.2.1, h.2.1.2.2.1⟩ (tk_kp (tk_bit σ))

theorem s_sq_6 {s0 : State} {l : Launch} {c : Cx} {hB : Mem} {g : Gh} {κ σ : Sg} {A B s : Nat} {n : Int32} {inn : Int32} {y3 y4 y5 y6 : Option Value} (hs : s < A * B) (h : IN A B s g n κ σ) (hin : σ 32 0 = inn) (h30 : σ 30 0 = nI 0) (h31 : σ 31 0 = nI 0) (hn1 : inn = 0 → ¬ σ 34 0 = nI 1) : KQ s0 l M_S_readSquare c hB 45 [some (.ref (gA g 6)), some (.int (nI s)), some (.int (inn)), y3, y4, y5, y6] [] g κ (EQ (SI g) g κ (sq6 A B s σ) (fun κ' => BT A B (s + 1) g n κ' (sq6 A B s σ).2)) := by
  by_cases hi0 : inn = 0
  · have hi : σ 32 0 = 0 := hin.trans hi0
    rcases h.2.2.2.1.2.2.1.1 with h2 | h2 | h3
    · exact absurd h2 (hn1 hi0)
    · skip
      refine k_iload_n d_S_readSquare_45 rfl rfl ?_
      refine k_if_eq (tgt := 53) d_S_readSquare_46 (by decide) (fun c_46 => ?_) (fun c_46 => ?_)
      · skip
        refine k_aload_n d_S_readSquare_53 rfl rfl ?_
        refine k_callT (As := []) d_S_readSquare_54 lS_133 mv_S_readWays rfl rfl (al_0 (by decide)) rfl rfl rfl (Nat.le_of_ble_eq_true rfl) (by decide) (s_waysP h.2.1 (h.2.2.2.1.1.trans h2)) (fun w_54 => ?_) (fun w_54 x_54 => ?_)
        · skip
          have h1 := h.read (tk_bit σ) h.2.1.1.bit w_54
          have e1 := tk_kp (tk_bit σ)
          have e3 : kp [30] (fBit σ).2 (su (fBit σ).2 30 0 (nI 1)) := kp.su (by decide)
          obtain ⟨m, hm, em⟩ : ∃ m, m < 2 ∧ (fBit σ).1 = nI m := by
            rcases bit_rng h.2.1.1 with q | q
            · exact ⟨0, by decide, q⟩
            · exact ⟨1, by decide, q⟩
          have ew : (if (fBit σ).1 = nI 1 then nI 2 else nI 0) = nI (2 * m) := by
            rw [em]
            rcases (show m = 0 ∨ m = 1 by omega) with rfl | rfl <;> decide
          rw [ew]
          refine k_istore_n d_S_readSquare_57 rfl (Nat.le_of_ble_eq_true rfl) ?_
          have e9 : sq6 A B s σ = sq7 A B s (nI m) (su (fBit σ).2 30 0 (nI 1)) := by
            unfold sq6
            rw [if_pos hi, if_pos h2, em, (show ∀ m, m < 2 → b01 (nI m) = nI m by decide) m hm]
          rw [e9]
          have f31 : su (fBit σ).2 30 0 (nI 1) 31 0 = nI 0 := (su_k (by decide)).trans ((e1 31 (by decide) 0).trans h31)
          have f32 : su (fBit σ).2 30 0 (nI 1) 32 0 = inn := (su_k (by decide)).trans ((e1 32 (by decide) 0).trans hin)
          have f34 : su (fBit σ).2 30 0 (nI 1) 34 0 = nI 2 := (su_k (by decide)).trans ((e1 34 (by decide) 0).trans h2)
          exact KQ.mono (s_sq_7 (W := 2 * m) hs (h1.flag (e3.mono (by decide))) (Or.inr (Or.inl ⟨f32.trans hi0, f34, m, hm, rfl, rfl, su_at _ _ _ _, f31⟩)) f32) (fun o g' κ' z => EQ.up (S := SI g) (κ := κ) z (kpI (kp.su (S := [1]) (by decide)) (by decide)))
        · skip
          have e9 : sq6 A B s σ = (nI 0, su (fBit σ).2 30 0 (nI 1)) := by
            unfold sq6
            rw [if_pos hi, if_pos h2, sq7_w (by rw [su_k (by decide)]; exact w_54)]
          rw [e9]
          exact EQ.thr1 in1 w_54 (Or.inl rfl) ⟨h.2.2.1, h.2.1.2.2.1⟩ (tk_kp (tk_bit σ))
      · exact absurd hi0 c_46
    · skip
      refine k_iload_n d_S_readSquare_45 rfl rfl ?_
      refine k_if_eq (tgt := 53) d_S_readSquare_46 (by decide) (fun c_46 => ?_) (fun c_46 => ?_)
      · skip
        refine k_aload_n d_S_readSquare_53 rfl rfl ?_
        refine k_callT (As := []) d_S_readSquare_54 lS_133 mv_S_readWays rfl rfl (al_0 (by decide)) rfl rfl rfl (Nat.le_of_ble_eq_true rfl) (by decide) (s_waysB h.2.1 (h.2.2.2.1.1.trans h3)) (fun w_54 => ?_) (fun w_54 x_54 => ?_)
        · skip
          have h1 := h.read (tk_na 2 σ) (okR.na h.2.1.1) w_54
          have e1 := tk_kp (tk_na 2 σ)
          obtain ⟨f, b, hf, hb, hfb, ev, en, e9⟩ := (ways_B (A := A) (B := B) (s := s) h.2.1.1 h.2.1.2.2.2.1 hi h3).2 w_54
          rw [ev]
          have e3 : kp [30, 31] (fNA 2 σ).2 (su (su (fNA 2 σ).2 30 0 (nI f)) 31 0 (nI b)) := (kp.su (by decide)).trans (kp.su (by decide))
          refine k_istore_n d_S_readSquare_57 rfl (Nat.le_of_ble_eq_true rfl) ?_
          rw [e9]
          have f32 : su (su (fNA 2 σ).2 30 0 (nI f)) 31 0 (nI b) 32 0 = inn := (e3 32 (by decide) 0).trans ((e1 32 (by decide) 0).trans hin)
          have f34 : su (su (fNA 2 σ).2 30 0 (nI f)) 31 0 (nI b) 34 0 = nI 3 := (e3 34 (by decide) 0).trans ((e1 34 (by decide) 0).trans h3)
          have f30 : su (su (fNA 2 σ).2 30 0 (nI f)) 31 0 (nI b) 30 0 = nI f := (su_k (by decide)).trans (su_at _ _ _ _)
          exact KQ.mono (s_sq_7 (W := 2 * f + b) hs (h1.flag (e3.mono (by decide))) (Or.inr (Or.inr ⟨f32.trans hi0, f34, rfl, f, b, hf, hb, rfl, hfb, f30, su_at _ _ _ _⟩)) f32) (fun o g' κ' z => EQ.up (S := SI g) (κ := κ) z (kpI (kp.su (S := [1]) (by decide)) (by decide)))
        · skip
          obtain ⟨q1, q2, q3⟩ := (ways_B (A := A) (B := B) (s := s) h.2.1.1 h.2.1.2.2.2.1 hi h3).1 w_54
          exact EQ.thr (τ := (fNA 2 σ).2) (σ := σ) in1 w_54 q1 q2 rfl ⟨h.2.2.1, h.2.1.2.2.1⟩ q3
      · exact absurd hi0 c_46
  · have hi : ¬ σ 32 0 = 0 := fun z => hi0 (hin.symm.trans z)
    refine k_iload_n d_S_readSquare_45 rfl rfl ?_
    refine k_if_eq (tgt := 53) d_S_readSquare_46 (by decide) (fun c_46 => ?_) (fun c_46 => ?_)
    · exact absurd c_46 hi0
    · skip
      refine k_iconst (v := nI 0) d_S_readSquare_49 (by decide) ?_
      refine k_goto (tgt := 57) d_S_readSquare_50 (by decide) ?_
      refine k_istore_n d_S_readSquare_57 rfl (Nat.le_of_ble_eq_true rfl) ?_
      have e9 : sq6 A B s σ = sq7 A B s (nI 0) σ := if_neg hi
      rw [e9]
      exact s_sq_7 (W := 0) hs h (Or.inl ⟨hi, rfl, rfl, h30, h31⟩) hin

theorem s_readSquare {s0 : State} {l : Launch} {c : Cx} {g : Gh} {κ : Sg} {σ : Sg} {A B s : Nat} {n : Int32} (hs : s < A * B) (hb : BT A B s g n κ σ) : KC s0 l M_S_readSquare c [.ref (gA g 6), .int (nI s)] g κ (EQ (SI g) g κ (fSq A B s (fPa A s σ)) (fun κ' => BT A B (s + 1) g n κ' (fSq A B s (fPa A s σ)).2)) := by
  refine k_in (by decide) rfl rfl (Nat.le_of_ble_eq_true rfl) (fun hB => ?_)
  obtain ⟨h, hk⟩ := hb.row
  have hX := hb.1
  have hA := hX.1.2.1
  have ha := hX.1.2.2.2.2.1
  have hAB : A * B ≤ 16 := Nat.mul_le_mul hA.1.2 hA.2.2
  have hA1 := hA.1
  refine KQ.mono (P := EQ (SI g) g (kRow A s κ) (fSq A B s (fPa A s σ)) (fun κ' => BT A B (s + 1) g n κ' (fSq A B s (fPa A s σ)).2)) ?_ (fun o g' κ' z => EQ.up (S := SI g) (κ := κ) z hk)
  refine k_iload_n d_S_readSquare_0 rfl rfl ?_
  refine k_aload_n d_S_readSquare_1 rfl rfl ?_
  refine k_getR d_S_readSquare_2 fS_32 rfl (al_0 (by decide)) rfl rfl ?_
  refine k_getE d_S_readSquare_5 fS_68 rfl (al_0 (by decide)) rfl ha ?_
  refine k_iremN d_S_readSquare_8 ⟨by omega, by omega, by omega⟩ ?_
  refine k_if_ne (tgt := 20) d_S_readSquare_9 (by decide) (fun c_9 => ?_) (fun c_9 => ?_)
  · skip
    refine k_st (show _ = kRow A s κ from (if_neg (fun z => c_9 (by rw [z]; rfl))).symm) ?_
    refine k_aload_n d_S_readSquare_20 rfl rfl ?_
    refine k_get d_S_readSquare_21 fS_61 rfl (al_0 (by decide)) rfl ?_
    refine k_iconst (v := nI 1) d_S_readSquare_24 (by decide) ?_
    refine k_icmp_eq (tgt := 39) d_S_readSquare_25 (by decide) (fun c_25 => ?_) (fun c_25 => ?_)
    · skip
      refine k_iconst (v := nI 1) d_S_readSquare_39 (by decide) ?_
      refine k_goto (tgt := 44) d_S_readSquare_40 (by decide) ?_
      refine k_istore_n d_S_readSquare_44 rfl (Nat.le_of_ble_eq_true rfl) ?_
      have h341 : fPa A s σ 34 0 = nI 1 := h.2.2.2.1.1.symm.trans c_25
      have e9 : fSq A B s (fPa A s σ) = sq6 A B s (sqI (fPa A s σ) (nI 1)) := if_pos h341
      have e3 := kp_I (fPa A s σ) (nI 1)
      rw [e9]
      exact s_sq_6 hs (h.flag (e3.mono (by decide))) (show sqI (fPa A s σ) (nI 1) 32 0 = nI 1 from rfl) rfl rfl (fun z => absurd z (by decide))
    · skip
      refine k_aload_n d_S_readSquare_28 rfl rfl ?_
      refine k_getR d_S_readSquare_29 fS_28 rfl (al_0 (by decide)) rfl rfl ?_
      refine k_callT (As := []) d_S_readSquare_32 lS_54 mv_T_next rfl rfl (al_0 (by decide)) rfl rfl rfl (Nat.le_of_ble_eq_true rfl) (by decide) (t_next h.2.1) (fun w_32 => ?_) (fun w_32 x_32 => ?_)
      · skip
        have h341 : ¬ fPa A s σ 34 0 = nI 1 := fun z => c_25 (h.2.2.2.1.1.trans z)
        have e9 : fSq A B s (fPa A s σ) = sq6 A B s (sqI (fBit (fPa A s σ)).2 (b01 (fBit (fPa A s σ)).1)) := if_neg h341
        have h1 := h.read (tk_bit _) h.2.1.1.bit w_32
        have e1 := tk_kp (tk_bit (fPa A s σ))
        have e3 := kp_I (fBit (fPa A s σ)).2 (b01 (fBit (fPa A s σ)).1)
        refine k_iconst (v := nI 1) d_S_readSquare_35 (by decide) ?_
        refine k_icmp_ne (tgt := 43) d_S_readSquare_36 (by decide) (fun c_36 => ?_) (fun c_36 => ?_)
        · skip
          refine k_iconst (v := nI 0) d_S_readSquare_43 (by decide) ?_
          refine k_istore_n d_S_readSquare_44 rfl (Nat.le_of_ble_eq_true rfl) ?_
          have ei : b01 (fBit (fPa A s σ)).1 = nI 0 := by
            unfold b01
            rw [if_neg c_36]
          rw [ei] at e9 e3
          rw [e9]
          exact KQ.mono (s_sq_6 hs (h1.flag (e3.mono (by decide))) (show sqI (fBit (fPa A s σ)).2 (nI 0) 32 0 = nI 0 from rfl) rfl rfl (fun _ z => h341 ((e1 34 (by decide) 0).symm.trans ((e3 34 (by decide) 0).symm.trans z)))) (fun o g' κ' z => EQ.up (S := SI g) (κ := kRow A s κ) z (kpI (kp.su (S := [1]) (by decide)) (by decide)))
        · skip
          refine k_iconst (v := nI 1) d_S_readSquare_39 (by decide) ?_
          refine k_goto (tgt := 44) d_S_readSquare_40 (by decide) ?_
          refine k_istore_n d_S_readSquare_44 rfl (Nat.le_of_ble_eq_true rfl) ?_
          have ei : b01 (fBit (fPa A s σ)).1 = nI 1 := by
            unfold b01
            rw [if_pos c_36]
          rw [ei] at e9 e3
          rw [e9]
          exact KQ.mono (s_sq_6 hs (h1.flag (e3.mono (by decide))) (show sqI (fBit (fPa A s σ)).2 (nI 1) 32 0 = nI 1 from rfl) rfl rfl (fun _ z => h341 ((e1 34 (by decide) 0).symm.trans ((e3 34 (by decide) 0).symm.trans z)))) (fun o g' κ' z => EQ.up (S := SI g) (κ := kRow A s κ) z (kpI (kp.su (S := [1]) (by decide)) (by decide)))
      · skip
        have h341 : ¬ fPa A s σ 34 0 = nI 1 := fun z => c_25 (h.2.2.2.1.1.trans z)
        have e9 : fSq A B s (fPa A s σ) = sq6 A B s (sqI (fBit (fPa A s σ)).2 (b01 (fBit (fPa A s σ)).1)) := if_neg h341
        have e3 := kp_I (fBit (fPa A s σ)).2 (b01 (fBit (fPa A s σ)).1)
        have w9 : 0 ≤ sqI (fBit (fPa A s σ)).2 (b01 (fBit (fPa A s σ)).1) 6 0 := by rw [e3 6 (by decide)]; exact w_32
        obtain ⟨q1, q2, q3⟩ := sq6_w (A := A) (B := B) (s := s) w9
        rw [e9]
        exact EQ.thr (τ := (fBit (fPa A s σ)).2) (σ := fPa A s σ) in1 w_32 q1 (q2.trans (e3 6 (by decide) 0)) rfl ⟨h.2.2.1, h.2.1.2.2.1⟩ (fun j hj => (q3 j hj).trans ((e3 j (by simp; omega) 0).trans (tk_bit _ j (by omega) (by omega) 0)))
  · skip
    refine k_aload_n d_S_readSquare_12 rfl rfl ?_
    refine k_callv (As := []) d_S_readSquare_13 lS_127 mv_S_forgetDcs rfl rfl (al_0 (by decide)) rfl rfl rfl (Nat.le_of_ble_eq_true rfl) (by decide) (s_forgetDcs) ?_
    refine k_aload_n d_S_readSquare_16 rfl rfl ?_
    refine k_callv (As := []) d_S_readSquare_17 lS_130 mv_S_forgetVectors rfl rfl (al_0 (by decide)) rfl rfl rfl (Nat.le_of_ble_eq_true rfl) (by decide) (s_forgetVectors) ?_
    refine k_st (show _ = kRow A s κ from (if_pos ((nI_eq (b := 0) (by have := Nat.mod_lt s (show A > 0 by omega); omega) (by decide)).mp c_9)).symm) ?_
    refine k_aload_n d_S_readSquare_20 rfl rfl ?_
    refine k_get d_S_readSquare_21 fS_61 rfl (al_0 (by decide)) rfl ?_
    refine k_iconst (v := nI 1) d_S_readSquare_24 (by decide) ?_
    refine k_icmp_eq (tgt := 39) d_S_readSquare_25 (by decide) (fun c_25 => ?_) (fun c_25 => ?_)
    · skip
      refine k_iconst (v := nI 1) d_S_readSquare_39 (by decide) ?_
      refine k_goto (tgt := 44) d_S_readSquare_40 (by decide) ?_
      refine k_istore_n d_S_readSquare_44 rfl (Nat.le_of_ble_eq_true rfl) ?_
      have h341 : fPa A s σ 34 0 = nI 1 := h.2.2.2.1.1.symm.trans c_25
      have e9 : fSq A B s (fPa A s σ) = sq6 A B s (sqI (fPa A s σ) (nI 1)) := if_pos h341
      have e3 := kp_I (fPa A s σ) (nI 1)
      rw [e9]
      exact s_sq_6 hs (h.flag (e3.mono (by decide))) (show sqI (fPa A s σ) (nI 1) 32 0 = nI 1 from rfl) rfl rfl (fun z => absurd z (by decide))
    · skip
      refine k_aload_n d_S_readSquare_28 rfl rfl ?_
      refine k_getR d_S_readSquare_29 fS_28 rfl (al_0 (by decide)) rfl rfl ?_
      refine k_callT (As := []) d_S_readSquare_32 lS_54 mv_T_next rfl rfl (al_0 (by decide)) rfl rfl rfl (Nat.le_of_ble_eq_true rfl) (by decide) (t_next h.2.1) (fun w_32 => ?_) (fun w_32 x_32 => ?_)
      · skip
        have h341 : ¬ fPa A s σ 34 0 = nI 1 := fun z => c_25 (h.2.2.2.1.1.trans z)
        have e9 : fSq A B s (fPa A s σ) = sq6 A B s (sqI (fBit (fPa A s σ)).2 (b01 (fBit (fPa A s σ)).1)) := if_neg h341
        have h1 := h.read (tk_bit _) h.2.1.1.bit w_32
        have e1 := tk_kp (tk_bit (fPa A s σ))
        have e3 := kp_I (fBit (fPa A s σ)).2 (b01 (fBit (fPa A s σ)).1)
        refine k_iconst (v := nI 1) d_S_readSquare_35 (by decide) ?_
        refine k_icmp_ne (tgt := 43) d_S_readSquare_36 (by decide) (fun c_36 => ?_) (fun c_36 => ?_)
        · skip
          refine k_iconst (v := nI 0) d_S_readSquare_43 (by decide) ?_
          refine k_istore_n d_S_readSquare_44 rfl (Nat.le_of_ble_eq_true rfl) ?_
          have ei : b01 (fBit (fPa A s σ)).1 = nI 0 := by
            unfold b01
            rw [if_neg c_36]
          rw [ei] at e9 e3
          rw [e9]
          exact KQ.mono (s_sq_6 hs (h1.flag (e3.mono (by decide))) (show sqI (fBit (fPa A s σ)).2 (nI 0) 32 0 = nI 0 from rfl) rfl rfl (fun _ z => h341 ((e1 34 (by decide) 0).symm.trans ((e3 34 (by decide) 0).symm.trans z)))) (fun o g' κ' z => EQ.up (S := SI g) (κ := kRow A s κ) z (kpI (kp.su (S := [1]) (by decide)) (by decide)))
        · skip
          refine k_iconst (v := nI 1) d_S_readSquare_39 (by decide) ?_
          refine k_goto (tgt := 44) d_S_readSquare_40 (by decide) ?_
          refine k_istore_n d_S_readSquare_44 rfl (Nat.le_of_ble_eq_true rfl) ?_
          have ei : b01 (fBit (fPa A s σ)).1 = nI 1 := by
            unfold b01
            rw [if_pos c_36]
          rw [ei] at e9 e3
          rw [e9]
          exact KQ.mono (s_sq_6 hs (h1.flag (e3.mono (by decide))) (show sqI (fBit (fPa A s σ)).2 (nI 1) 32 0 = nI 1 from rfl) rfl rfl (fun _ z => h341 ((e1 34 (by decide) 0).symm.trans ((e3 34 (by decide) 0).symm.trans z)))) (fun o g' κ' z => EQ.up (S := SI g) (κ := kRow A s κ) z (kpI (kp.su (S := [1]) (by decide)) (by decide)))
      · skip
        have h341 : ¬ fPa A s σ 34 0 = nI 1 := fun z => c_25 (h.2.2.2.1.1.trans z)
        have e9 : fSq A B s (fPa A s σ) = sq6 A B s (sqI (fBit (fPa A s σ)).2 (b01 (fBit (fPa A s σ)).1)) := if_neg h341
        have e3 := kp_I (fBit (fPa A s σ)).2 (b01 (fBit (fPa A s σ)).1)
        have w9 : 0 ≤ sqI (fBit (fPa A s σ)).2 (b01 (fBit (fPa A s σ)).1) 6 0 := by rw [e3 6 (by decide)]; exact w_32
        obtain ⟨q1, q2, q3⟩ := sq6_w (A := A) (B := B) (s := s) w9
        rw [e9]
        exact EQ.thr (τ := (fBit (fPa A s σ)).2) (σ := fPa A s σ) in1 w_32 q1 (q2.trans (e3 6 (by decide) 0)) rfl ⟨h.2.2.1, h.2.1.2.2.1⟩ (fun j hj => (q3 j hj).trans ((e3 j (by simp; omega) 0).trans (tk_bit _ j (by omega) (by omega) 0)))

