/-! ===== showing, taking whole ===== -/
def shP (A B q k : Nat) (g : Gh) (κ : Sg) (g' : Gh) (κ' : Sg) : Prop := (20 ≤ k ∧ g' = g ∧ κ' = su κ 4 2 (nI (k + 1))) ∨ (k < 20 ∧ shQ A B q k g (su κ 4 2 (nI (k + 1))) g' κ')
theorem kP_k {κ : Sg} {b i j : Nat} (h : i < b) : kP κ b i j = κ i j := if_neg (by omega)
theorem CI.pic {g : Gh} {κ : Sg} {a : Nat} (h : CI g κ) : CI (gP g a) (kP κ (47 + 9 * gC g)) := by
  intro q p hq hp
  have hq : q < 3 + (gC g + 1) := hq
  by_cases e : q < 3 + gC g
  · have h0 := h q p e hp
    have e1 : gL (gP g a) (idD q p) = gL g (idD q p) := if_neg (by unfold idD; omega)
    rw [e1, kP_k (by unfold idL; omega)]
    exact h0
  · have e2 : q = 3 + gC g := by omega
    subst e2
    have e1 : gL (gP g a) (idD (3 + gC g) p) = 0 := if_pos (by unfold idD; omega)
    refine ⟨by rw [e1]; omega, ?_⟩
    show (if 47 + 9 * gC g ≤ idL (3 + gC g) p then (if idL (3 + gC g) p = 47 + 9 * gC g + 3 ∧ 0 = 0 then nI 16 else if idL (3 + gC g) p = 47 + 9 * gC g + 4 ∧ 0 = 0 then nI 8 else if idL (3 + gC g) p = 47 + 9 * gC g + 5 ∧ 0 = 0 then nI 8 else 0) else κ (idL (3 + gC g) p) 0) = nI (szN p)
    rw [if_pos (by unfold idL; omega)]
    rcases (show p = 0 ∨ p = 1 ∨ p = 2 by omega) with rfl | rfl | rfl
    · rw [if_pos ⟨by unfold idL; omega, rfl⟩]; rfl
    · rw [if_neg (fun z => by have := z.1; unfold idL at this; omega), if_pos ⟨by unfold idL; omega, rfl⟩]; rfl
    · rw [if_neg (fun z => by have := z.1; unfold idL at this; omega), if_neg (fun z => by have := z.1; unfold idL at this; omega), if_pos ⟨by unfold idL; omega, rfl⟩]; rfl
theorem shQ.pic {A B q a : Nat} {g g' : Gh} {κ κ' : Sg} (hq : q < 3) (hs : shQ A B q (gC g) (gP g a) (kP κ (47 + 9 * gC g)) g' κ') : shQ A B q (gC g) g κ g' κ' := by
  obtain ⟨h1, h2, h3, h4, h5, h6, h7, h8, h9, h10⟩ := hs
  have hal : ∀ i, al g i → al (gP g a) i := fun i hi => by
    rcases hi with hi | hi
    · exact Or.inl hi
    · exact Or.inr ⟨hi.1, by show i < 47 + 9 * (gC g + 1); omega⟩
  have hlt : ∀ i, al g i → i < 47 + 9 * gC g := fun i hi => by unfold al at hi; omega
  refine ⟨h1, h2, h3, ?_, h5, fun i hi h => ?_, fun i hi h h' j => ?_, h8, fun p j hp hj => ?_, fun j hj => ?_⟩
  · have : gC g + 1 ≤ gC g' := h4
    omega
  · obtain ⟨x1, x2⟩ := h6 i (hal i hi) h
    exact ⟨x1.trans (gP_A hi), x2.trans (if_neg (by have := hlt i hi; omega))⟩
  · rw [h7 i (hal i hi) h h' j, kP_k (hlt i hi)]
  · rw [h9 p j hp hj, kP_k (by unfold idD; omega)]
  · rw [h10 j hj, kP_k (by unfold idF; omega)]

theorem r_show {s0 : State} {l : Launch} {c : Cx} {g : Gh} {κ : Sg} {q k A B : Nat} (hA : okAB A B) (hG : okG g) (hCI : CI g κ) (ha : κ 3 2 = nI A) (hb : κ 3 3 = nI B) (hq : q < 3) (hln : ∀ p, p < 3 → wdN A p * wdN B p ≤ gL g (idD q p)) (hk : κ 4 2 = nI k) (hk2 : k < 2 ^ 30) (hkc : k < 20 → k ≤ gC g) : KC s0 l M_R_show c [.ref (gA g 3), .ref (gA g (idP q))] g κ (fun o g' κ' => o = .inl none ∧ shP A B q k g κ g' κ') := by
  refine k_in (by decide) rfl rfl (Nat.le_of_ble_eq_true rfl) (fun hB => ?_)
  have hq1 : q < 3 + gC g := by omega
  refine k_aload_n d_R_show_0 rfl rfl ?_
  refine k_getR d_R_show_1 fR_9 rfl (al_0 (by decide)) rfl rfl ?_
  refine k_iconst (v := nI 2) d_R_show_4 (by decide) ?_
  refine k_iaload d_R_show_5 (al_0 (by decide)) rfl (show vp_in _ 8 from vp_in_nI (show 2 < 8 by decide) (by decide)) ?_
  rw [show (nI 2).toNatClampNeg = 2 from rfl, hk]
  refine k_istore_n d_R_show_6 rfl (Nat.le_of_ble_eq_true rfl) ?_
  refine k_aload_n d_R_show_7 rfl rfl ?_
  refine k_getR d_R_show_8 fR_9 rfl (al_0 (by decide)) rfl rfl ?_
  refine k_iconst (v := nI 2) d_R_show_11 (by decide) ?_
  refine k_dup2 d_R_show_12 rfl rfl ?_
  refine k_iaload d_R_show_13 (al_0 (by decide)) rfl (show vp_in _ 8 from vp_in_nI (show 2 < 8 by decide) (by decide)) ?_
  rw [show (nI 2).toNatClampNeg = 2 from rfl, hk]
  refine k_iconst (v := nI 1) d_R_show_14 (by decide) ?_
  refine k_iaddN d_R_show_15  ?_
  refine k_iastore d_R_show_16 (al_0 (by decide)) rfl (show vp_in _ 8 from vp_in_nI (show 2 < 8 by decide) (by decide)) ?_
  refine k_iload_n d_R_show_17 rfl rfl ?_
  refine k_bipush (v := nI 20) d_R_show_18 (by decide) ?_
  refine k_icmp_lt (tgt := 24) d_R_show_20 (by decide) (fun c_20 => ?_) (fun c_20 => ?_)
  · skip
    have h20 : k < 20 := (nI_ltI (by omega) (by decide)).mp c_20
    have hCI2 : CI g (su κ 4 2 (nI (k + 1))) := fun q2 p hq2 hp => ⟨(hCI q2 p hq2 hp).1, (su_k (by unfold idL; omega)).trans (hCI q2 p hq2 hp).2⟩
    have ha2 : su κ 4 2 (nI (k + 1)) 3 2 = nI A := ha
    have hb2 : su κ 4 2 (nI (k + 1)) 3 3 = nI B := hb
    clear hCI ha hb
    have hCI := hCI2
    have ha := ha2
    have hb := hb2
    show KQ s0 l M_R_show c hB 24 [some (.ref (gA g 3)), some (.ref (gA g (idP q))), some (.int (nI k)), none] [] g (su κ 4 2 (nI (k + 1))) _
    by_cases hlt : k < gC g
    · have hk1 : 3 + k < 3 + gC g := by omega
      refine k_aload_n d_R_show_24 rfl rfl ?_
      refine k_getR d_R_show_25 fR_17 rfl (al_0 (by decide)) rfl rfl ?_
      refine k_iload_n d_R_show_28 rfl rfl ?_
      refine k_aaload (ci := 1) d_R_show_29 (by decide) (al_0 (by decide)) rfl (show vp_in _ 20 from vp_in_nI h20 (by decide)) (by rw [nI_clamp (by omega)]; exact if_pos hlt) ?_
      refine k_astore_n d_R_show_30 rfl (Nat.le_of_ble_eq_true rfl) ?_
      refine k_aload_n d_R_show_31 rfl rfl ?_
      refine k_ifnonnull (tgt := 50) d_R_show_32 (by decide) ?_
      exact (r_show_t hA hG hCI ha hb hq hlt hln).mono (fun o g9 κ9 z => ⟨z.1, Or.inr ⟨h20, z.2⟩⟩)
    · skip
      refine k_aload_n d_R_show_24 rfl rfl ?_
      refine k_getR d_R_show_25 fR_17 rfl (al_0 (by decide)) rfl rfl ?_
      refine k_iload_n d_R_show_28 rfl rfl ?_
      refine k_aaloadN (ci := 1) d_R_show_29 (by decide) (al_0 (by decide)) rfl (show vp_in _ 20 from vp_in_nI h20 (by decide)) (by rw [nI_clamp (by omega)]; exact if_neg hlt) ?_
      refine k_astore_nN d_R_show_30 rfl (Nat.le_of_ble_eq_true rfl) ?_
      refine k_aload_nN d_R_show_31 rfl rfl ?_
      refine k_ifnonnullN d_R_show_32 ?_
      have ek : k = gC g := by have := hkc h20; omega
      subst ek
      refine fun h hM => ?_
      have hNP := NP_new h
      have hb3 := hM.1.1.2.2.2.1 3 (al_0 (by decide))
      have hb5 := hM.1.1.2.2.2.1 5 (al_0 (by decide))
      refine q_new (ci := 1) d_R_show_35 (by decide) cR_15 ?_
      refine q_dup d_R_show_38 rfl ?_
      refine q_callIN (As := []) (Q1 := fun h9 => h9 = newP h) d_R_show_39 nR_28 mc_P_init rfl rfl rfl rfl (Nat.le_of_ble_eq_true rfl) (by decide) (q_P_init (h := nw h 2 0 2) (a := mN h) (Nat.lt_succ_self _) (by rw [mK_nw, if_pos rfl])) (fun h9 q9 => ?_)
      rw [← q9] at hNP
      clear q9
      have n3 := hNP.2.2.2.2.2.2 _ hb3.1.2.2
      have n5 := hNP.2.2.2.2.2.2 _ hb5.1.2.2
      refine q_astore_n d_R_show_42 rfl (Nat.le_of_ble_eq_true rfl) ?_
      refine q_aload_n d_R_show_43 rfl rfl ?_
      refine q_getR d_R_show_44 fR_17 rfl (n3.1.trans hb3.2.1) (q := gA g 5) ((n3.2.2.2.1 1).trans (hb3.2.2.2.2 1)) ?_
      refine q_iload_n d_R_show_47 rfl rfl ?_
      refine q_aload_n d_R_show_48 rfl rfl ?_
      refine q_aastore (ci := 1) d_R_show_49 (by decide) (n5.1.trans hb5.2.1) (by rw [n5.2.1, hb5.2.2.1]; exact (show vp_in _ 20 from vp_in_nI h20 (by decide))) ?_ ?_
      · rw [hNP.2.2.1]
        simp
      rw [nI_clamp (show gC g < 2 ^ 31 by omega)]
      have hM2 := hM.pic h20 hNP
      have key := r_show_t (s0 := s0) (l := l) (c := c) (hB := hB) (g := gP g (mN h)) (κ := kP (su κ 4 2 (nI (gC g + 1))) (47 + 9 * gC g)) (q := q) (k := gC g) (x := nI (gC g)) hA ⟨hG.1, by show gC g + 1 ≤ 20; omega⟩ hCI.pic ((kP_k (by omega)).trans ha) ((kP_k (by omega)).trans hb) hq (Nat.lt_succ_self _) (fun p hp => by
        have e1 : gL (gP g (mN h)) (idD q p) = gL g (idD q p) := if_neg (by unfold idD; omega)
        rw [e1]
        exact hln p hp) _ hM2
      have e1 : gA (gP g (mN h)) 3 = gA g 3 := gP_A (al_0 (by decide))
      have e2 : gA (gP g (mN h)) (idP q) = gA g (idP q) := gP_A (al_P hq1)
      have e3 : gA (gP g (mN h)) (idP (3 + gC g)) = mN h := by
        have e9 : idP (3 + gC g) = 47 + 9 * gC g + 0 := by unfold idP; omega
        rw [e9, gP_A2]
        rfl
      rw [e1, e2, e3] at key
      exact key.mono (fun o h' z => by
        obtain ⟨g', κ', z1, z2, z3⟩ := z
        exact ⟨g', κ', z1, z2, Or.inr ⟨h20, z3.pic hq⟩⟩)
  · skip
    refine k_vret d_R_show_23 rfl ?_
    exact ⟨rfl, Or.inl ⟨Nat.le_of_not_lt (fun h9 => c_20 (nI_lt h9 (by decide))), rfl, rfl⟩⟩

theorem r_finish {s0 : State} {l : Launch} {c : Cx} {g : Gh} {κ : Sg} {k A B : Nat} (hA : okAB A B) (hG : okG g) (hCI : CI g κ) (ha : κ 3 2 = nI A) (hb : κ 3 3 = nI B) (hln : 0 < κ 3 7 → ∀ p, p < 3 → wdN A p * wdN B p ≤ gL g (idD (gT g) p)) (hk : κ 4 2 = nI k) (hk2 : k < 2 ^ 30) (hkc : k < 20 → k ≤ gC g) : KC s0 l M_R_finish c [.ref (gA g 3)] g κ (fun o g' κ' => o = .inl none ∧ ((κ 3 7 ≤ 0 ∧ g' = g ∧ κ' = κ) ∨ (0 < κ 3 7 ∧ shP A B (gT g) k g κ g' κ'))) := by
  refine k_in (by decide) rfl rfl (Nat.le_of_ble_eq_true rfl) (fun hB => ?_)
  have hq : gT g < 3 := hG.1.2.1
  have hq1 : gT g < 3 + gC g := by omega
  refine k_aload_n d_R_finish_0 rfl rfl ?_
  refine k_get d_R_finish_1 fR_45 rfl (al_0 (by decide)) rfl ?_
  refine k_if_le (tgt := 15) d_R_finish_4 (by decide) (fun c_4 => ?_) (fun c_4 => ?_)
  · skip
    refine k_vret d_R_finish_15 rfl ?_
    first
      | exact ⟨rfl, Or.inl ⟨c_4, rfl, rfl⟩⟩
      | exact ⟨rfl, Or.inr ⟨Int32.not_le.mp c_4, hz⟩⟩
  · skip
    refine k_aload_n d_R_finish_7 rfl rfl ?_
    refine k_aload_n d_R_finish_8 rfl rfl ?_
    refine k_getR d_R_finish_9 fR_33 rfl (al_0 (by decide)) rfl rfl ?_
    refine k_call (As := [_]) d_R_finish_12 lR_55 mv_R_show rfl rfl (al_0 (by decide)) rfl rfl rfl (Nat.le_of_ble_eq_true rfl) (by decide) (r_show (q := gT g) hA hG hCI ha hb hq (hln (Int32.not_le.mp c_4)) hk hk2 hkc) (fun v_12 g_12 κ_12 q_12 => ?_) (fun E_12 g_12 κ_12 q_12 => ?_)
    · skip
      obtain ⟨e9, hz⟩ := q_12
      obtain rfl := Sum.inl.inj e9
      refine k_vret d_R_finish_15 rfl ?_
      first
        | exact ⟨rfl, Or.inl ⟨c_4, rfl, rfl⟩⟩
        | exact ⟨rfl, Or.inr ⟨Int32.not_le.mp c_4, hz⟩⟩
    · skip
      exact nomatch q_12.1

def rotG (g : Gh) : Gh := (gA g, gL g, gO g, gN g, gT g, gC g, gX g)
theorem rot_pt {g : Gh} {i j : Nat} (h : i ≠ 3) : ptr (rotG g) i j = ptr g i j := by
  unfold ptr
  split
  · unfold pt1
    split <;> first | rfl | exact absurd rfl h
  · rfl
theorem CF.rot {s0 : State} {c : Cx} {hB h : Mem} {g : Gh} {κ : Sg} (hC : CF s0 c hB h g κ) : CF s0 c hB (sR (sR (sR h (gA g 3) 6 (some (gA g (idP (gT g))))) (gA g 3) 5 (some (gA g (idP (gN g))))) (gA g 3) 4 (some (gA g (idP (gO g))))) (rotG g) κ := by
  obtain ⟨⟨⟨hW, hG, hinj, hcel, hmm⟩, hb1, hb2⟩, hf⟩ := hC
  have h3 := hcel 3 (Or.inl (by decide))
  have hfr : frc c h (sR (sR (sR h (gA g 3) 6 (some (gA g (idP (gT g))))) (gA g 3) 5 (some (gA g (idP (gN g))))) (gA g 3) 4 (some (gA g (idP (gO g))))) := (frc.refl c h).at h3.1 (fun b hb => ⟨rfl, rfl, fun _ => rfl, fun j => by rw [mR_sR, if_neg (fun z => hb z.1), mR_sR, if_neg (fun z => hb z.1), mR_sR, if_neg (fun z => hb z.1)], fun _ => rfl⟩)
  refine ⟨⟨⟨hW.fr hfr, ⟨⟨hG.1.2.2.1, hG.1.1, hG.1.2.1, Ne.symm hG.1.2.2.2.2.1, Ne.symm hG.1.2.2.2.2.2, hG.1.2.2.2.1⟩, hG.2⟩, hinj, fun i hi => ?_, hmm⟩, hb1, hb2⟩, hf.trans hfr⟩
  have hi' : al g i := hi
  obtain ⟨b1, b2, b3, b4, b5⟩ := hcel i hi'
  refine ⟨b1, b2, b3, b4, fun j => ?_⟩
  show mR (sR (sR (sR h (gA g 3) 6 (some (gA g (idP (gT g))))) (gA g 3) 5 (some (gA g (idP (gN g))))) (gA g 3) 4 (some (gA g (idP (gO g))))) (gA g i) j = (ptr (rotG g) i j).map (gA g)
  rw [mR_sR, mR_sR, mR_sR]
  by_cases e : i = 3
  · subst e
    by_cases e4 : j = 4
    · rw [if_pos ⟨rfl, e4⟩, e4]; rfl
    · rw [if_neg (fun z => e4 z.2)]
      by_cases e5 : j = 5
      · rw [if_pos ⟨rfl, e5⟩, e5]; rfl
      · rw [if_neg (fun z => e5 z.2)]
        by_cases e6 : j = 6
        · rw [if_pos ⟨rfl, e6⟩, e6]; rfl
        · rw [if_neg (fun z => e6 z.2), b5]
          have e7 : ptr (rotG g) 3 j = ptr g 3 j := by
            show pt1 (rotG g) 3 j = pt1 g 3 j
            unfold pt1
            match j, e4, e5, e6 with
            | 0, _, _, _ => rfl
            | 1, _, _, _ => rfl
            | 2, _, _, _ => rfl
            | 3, _, _, _ => rfl
            | 4, h, _, _ => exact absurd rfl h
            | 5, _, h, _ => exact absurd rfl h
            | 6, _, _, h => exact absurd rfl h
            | (n + 7), _, _, _ => rfl
          rw [e7]
  · have hne : gA g i ≠ gA g 3 := fun z => e (hinj i 3 hi' (Or.inl (by decide)) z)
    rw [if_neg (fun z => hne z.1), if_neg (fun z => hne z.1), if_neg (fun z => hne z.1), b5, rot_pt e]
def twK (κ : Sg) : Sg := su κ 3 7 (if κ 3 7 + nI 1 < nI 2 then κ 3 7 + nI 1 else nI 2)
def tkW (A B k : Nat) (g : Gh) (κ : Sg) (g' : Gh) (κ' : Sg) : Prop :=
  ((¬ κ (idF (gN g)) 0 = nI 1 ∧ ¬ κ (idF (gN g)) 0 = nI 2) ∧ shP A B (gN g) k g (su κ 4 3 (κ 4 3 + nI 1)) g' κ') ∨
  ((κ (idF (gN g)) 0 = nI 1 ∨ κ (idF (gN g)) 0 = nI 2) ∧ ∃ g2 κ2, ((κ 3 7 ≤ 0 ∧ g2 = g ∧ κ2 = su κ 4 3 (κ 4 3 + nI 1)) ∨ (0 < κ 3 7 ∧ shP A B (gT g) k g (su κ 4 3 (κ 4 3 + nI 1)) g2 κ2)) ∧ g' = rotG g2 ∧ κ' = twK κ2)
theorem shP_g {A B q k : Nat} {g g' : Gh} {κ κ' : Sg} (h : shP A B q k g κ g' κ') : gA g' 3 = gA g 3 ∧ κ' 3 7 = κ 3 7 := by
  rcases h with ⟨-, rfl, rfl⟩ | ⟨-, h⟩
  · exact ⟨rfl, rfl⟩
  · obtain ⟨h1, h2, h3, h4, h5, h6, h7, -⟩ := h
    refine ⟨(h6 3 (Or.inl (by decide)) (fun p hp => by unfold idD; omega)).1, ?_⟩
    rw [h7 3 (Or.inl (by decide)) (fun p hp => ⟨by unfold idD; omega, by unfold idL; omega⟩) (by unfold idF; omega)]
    rfl
theorem r_tw_t {s0 : State} {l : Launch} {c : Cx} {hB : Mem} {g : Gh} {κ : Sg} {x : Int32} : KQ s0 l M_R_takeWhole c hB 54 [some (.ref (gA g 3)), some (.int x), none] [] g κ (fun o g' κ' => o = .inl none ∧ g' = rotG g ∧ κ' = twK κ) := by
  refine fun h hM => ?_
  have hb3 := hM.1.1.2.2.2.1 3 (al_0 (by decide))
  have hM2 := hM.rot
  refine q_aload_n d_R_takeWhole_54 rfl rfl ?_
  refine q_getR d_R_takeWhole_55 fR_36 rfl hb3.2.1 (q := gA g (idP (gO g))) (hb3.2.2.2.2 6) ?_
  refine q_astore_n d_R_takeWhole_58 rfl (Nat.le_of_ble_eq_true rfl) ?_
  refine q_aload_n d_R_takeWhole_59 rfl rfl ?_
  refine q_aload_n d_R_takeWhole_60 rfl rfl ?_
  refine q_getR d_R_takeWhole_61 fR_33 rfl hb3.2.1 (q := gA g (idP (gT g))) (hb3.2.2.2.2 5) ?_
  refine q_putR d_R_takeWhole_64 fR_36 rfl hb3.2.1 rfl rfl (Or.inl rfl) ?_
  refine q_aload_n d_R_takeWhole_67 rfl rfl ?_
  refine q_aload_n d_R_takeWhole_68 rfl rfl ?_
  refine q_getR d_R_takeWhole_69 fR_29 rfl hb3.2.1 (q := gA g (idP (gN g))) (by rw [mR_sR, if_neg (fun z => absurd z.2 (by decide))]; exact hb3.2.2.2.2 4) ?_
  refine q_putR d_R_takeWhole_72 fR_33 rfl hb3.2.1 rfl rfl (Or.inl rfl) ?_
  refine q_aload_n d_R_takeWhole_75 rfl rfl ?_
  refine q_aload_n d_R_takeWhole_76 rfl rfl ?_
  refine q_putR d_R_takeWhole_77 fR_29 rfl hb3.2.1 rfl rfl (Or.inl rfl) ?_
  have key : KQ s0 l M_R_takeWhole c hB 80 [some (.ref (gA (rotG g) 3)), some (.int x), some (.ref (gA g (idP (gO g))))] [] (rotG g) κ (fun o g' κ' => o = .inl none ∧ g' = rotG g ∧ κ' = twK κ) := by
    refine k_aload_n d_R_takeWhole_80 rfl rfl ?_
    refine k_iconst (v := nI 2) d_R_takeWhole_81 (by decide) ?_
    refine k_aload_n d_R_takeWhole_82 rfl rfl ?_
    refine k_get d_R_takeWhole_83 fR_45 rfl (al_0 (by decide)) rfl ?_
    refine k_iconst (v := nI 1) d_R_takeWhole_86 (by decide) ?_
    refine k_iadd d_R_takeWhole_87 ?_
    refine k_min d_R_takeWhole_88 lR_59 w_min1 w_min2 w_min3 (Nat.le_of_ble_eq_true rfl) (by decide) ?_
    refine k_put d_R_takeWhole_91 fR_45 rfl (al_0 (by decide)) rfl rfl rfl rfl ?_
    refine k_vret d_R_takeWhole_94 rfl ?_
    exact ⟨rfl, rfl, rfl⟩
  exact key _ hM2
theorem r_takeWhole {s0 : State} {l : Launch} {c : Cx} {g : Gh} {κ : Sg} {k A B : Nat} (hA : okAB A B) (hG : okG g) (hCI : CI g κ) (ha : κ 3 2 = nI A) (hb : κ 3 3 = nI B) (hln : ∀ p, p < 3 → wdN A p * wdN B p ≤ gL g (idD (gN g) p)) (hlt : 0 < κ 3 7 → ∀ p, p < 3 → wdN A p * wdN B p ≤ gL g (idD (gT g) p)) (hk : κ 4 2 = nI k) (hk2 : k < 2 ^ 30) (hkc : k < 20 → k ≤ gC g) : KC s0 l M_R_takeWhole c [.ref (gA g 3)] g κ (fun o g' κ' => o = .inl none ∧ tkW A B k g κ g' κ') := by
  refine k_in (by decide) rfl rfl (Nat.le_of_ble_eq_true rfl) (fun hB => ?_)
  have hT : gT g < 3 := hG.1.2.1
  have hT1 : gT g < 3 + gC g := by omega
  have hN : gN g < 3 := hG.1.1
  have hN1 : gN g < 3 + gC g := by omega
  have hk9 : su κ 4 3 (κ 4 3 + nI 1) 4 2 = nI k := hk
  have hCI9 : CI g (su κ 4 3 (κ 4 3 + nI 1)) := fun q2 p hq2 hp => ⟨(hCI q2 p hq2 hp).1, (su_k (by unfold idL; omega)).trans (hCI q2 p hq2 hp).2⟩
  have hF9 : su κ 4 3 (κ 4 3 + nI 1) (idF (gN g)) 0 = κ (idF (gN g)) 0 := su_k (by unfold idF; omega)
  refine k_aload_n d_R_takeWhole_0 rfl rfl ?_
  refine k_getR d_R_takeWhole_1 fR_9 rfl (al_0 (by decide)) rfl rfl ?_
  refine k_iconst (v := nI 3) d_R_takeWhole_4 (by decide) ?_
  refine k_dup2 d_R_takeWhole_5 rfl rfl ?_
  refine k_iaload d_R_takeWhole_6 (al_0 (by decide)) rfl (show vp_in _ 8 from vp_in_nI (show 3 < 8 by decide) (by decide)) ?_
  refine k_iconst (v := nI 1) d_R_takeWhole_7 (by decide) ?_
  refine k_iadd d_R_takeWhole_8 ?_
  refine k_iastore d_R_takeWhole_9 (al_0 (by decide)) rfl (show vp_in _ 8 from vp_in_nI (show 3 < 8 by decide) (by decide)) ?_
  refine k_aload_n d_R_takeWhole_10 rfl rfl ?_
  refine k_getR d_R_takeWhole_11 fR_29 rfl (al_0 (by decide)) rfl rfl ?_
  refine k_getR d_R_takeWhole_14 fR_52 rfl (al_P hN1) (kd_P (gN g)) (pt_P1 g (gN g)) ?_
  refine k_iconst (v := nI 0) d_R_takeWhole_17 (by decide) ?_
  refine k_iaload d_R_takeWhole_18 (al_F hN1) (kd_F (gN g)) (show vp_in _ (lnI g (idF (gN g))) by rw [ln_F]; exact vp_in_nI (show 0 < 4 by decide) (by decide)) ?_
  refine k_top (w := κ (idF (gN g)) 0) hF9 ?_
  refine k_istore_n d_R_takeWhole_19 rfl (Nat.le_of_ble_eq_true rfl) ?_
  refine k_iload_n d_R_takeWhole_20 rfl rfl ?_
  refine k_iconst (v := nI 1) d_R_takeWhole_21 (by decide) ?_
  refine k_icmp_eq (tgt := 39) d_R_takeWhole_22 (by decide) (fun c_22 => ?_) (fun c_22 => ?_)
  · skip
    refine k_aload_n d_R_takeWhole_39 rfl rfl ?_
    refine k_get d_R_takeWhole_40 fR_45 rfl (al_0 (by decide)) rfl ?_
    refine k_if_le (tgt := 54) d_R_takeWhole_43 (by decide) (fun c_43 => ?_) (fun c_43 => ?_)
    · skip
      refine (r_tw_t (x := κ (idF (gN g)) 0)).mono (fun o g9 κ9 z => ⟨z.1, Or.inr ⟨?_, ?_⟩⟩)
      · first
          | exact Or.inl c_22
          | exact Or.inr c_27
      · first
          | exact ⟨_, _, Or.inl ⟨c_43, rfl, rfl⟩, z.2.1, z.2.2⟩
          | exact ⟨_, _, Or.inr ⟨Int32.not_le.mp c_43, hz⟩, z.2.1, z.2.2⟩
    · skip
      refine k_aload_n d_R_takeWhole_46 rfl rfl ?_
      refine k_aload_n d_R_takeWhole_47 rfl rfl ?_
      refine k_getR d_R_takeWhole_48 fR_33 rfl (al_0 (by decide)) rfl rfl ?_
      refine k_call (As := [_]) d_R_takeWhole_51 lR_55 mv_R_show rfl rfl (al_0 (by decide)) rfl rfl rfl (Nat.le_of_ble_eq_true rfl) (by decide) (r_show (q := gT g) hA hG hCI9 ha hb hT (hlt (Int32.not_le.mp c_43)) hk9 hk2 hkc) (fun v_51 g_51 κ_51 q_51 => ?_) (fun E_51 g_51 κ_51 q_51 => ?_)
      · skip
        obtain ⟨e9, hz⟩ := q_51
        obtain rfl := Sum.inl.inj e9
        have hg := shP_g hz
        show KQ s0 l M_R_takeWhole c hB 54 [some (.ref (gA g 3)), some (.int (κ (idF (gN g)) 0)), none] [] g_51 κ_51 _
        rw [← hg.1]
        refine (r_tw_t (x := κ (idF (gN g)) 0)).mono (fun o g9 κ9 z => ⟨z.1, Or.inr ⟨?_, ?_⟩⟩)
        · first
            | exact Or.inl c_22
            | exact Or.inr c_27
        · first
            | exact ⟨_, _, Or.inl ⟨c_43, rfl, rfl⟩, z.2.1, z.2.2⟩
            | exact ⟨_, _, Or.inr ⟨Int32.not_le.mp c_43, hz⟩, z.2.1, z.2.2⟩
      · skip
        exact nomatch q_51.1
  · skip
    refine k_iload_n d_R_takeWhole_25 rfl rfl ?_
    refine k_iconst (v := nI 2) d_R_takeWhole_26 (by decide) ?_
    refine k_icmp_eq (tgt := 39) d_R_takeWhole_27 (by decide) (fun c_27 => ?_) (fun c_27 => ?_)
    · skip
      refine k_aload_n d_R_takeWhole_39 rfl rfl ?_
      refine k_get d_R_takeWhole_40 fR_45 rfl (al_0 (by decide)) rfl ?_
      refine k_if_le (tgt := 54) d_R_takeWhole_43 (by decide) (fun c_43 => ?_) (fun c_43 => ?_)
      · skip
        refine (r_tw_t (x := κ (idF (gN g)) 0)).mono (fun o g9 κ9 z => ⟨z.1, Or.inr ⟨?_, ?_⟩⟩)
        · first
            | exact Or.inl c_22
            | exact Or.inr c_27
        · first
            | exact ⟨_, _, Or.inl ⟨c_43, rfl, rfl⟩, z.2.1, z.2.2⟩
            | exact ⟨_, _, Or.inr ⟨Int32.not_le.mp c_43, hz⟩, z.2.1, z.2.2⟩
      · skip
        refine k_aload_n d_R_takeWhole_46 rfl rfl ?_
        refine k_aload_n d_R_takeWhole_47 rfl rfl ?_
        refine k_getR d_R_takeWhole_48 fR_33 rfl (al_0 (by decide)) rfl rfl ?_
        refine k_call (As := [_]) d_R_takeWhole_51 lR_55 mv_R_show rfl rfl (al_0 (by decide)) rfl rfl rfl (Nat.le_of_ble_eq_true rfl) (by decide) (r_show (q := gT g) hA hG hCI9 ha hb hT (hlt (Int32.not_le.mp c_43)) hk9 hk2 hkc) (fun v_51 g_51 κ_51 q_51 => ?_) (fun E_51 g_51 κ_51 q_51 => ?_)
        · skip
          obtain ⟨e9, hz⟩ := q_51
          obtain rfl := Sum.inl.inj e9
          have hg := shP_g hz
          show KQ s0 l M_R_takeWhole c hB 54 [some (.ref (gA g 3)), some (.int (κ (idF (gN g)) 0)), none] [] g_51 κ_51 _
          rw [← hg.1]
          refine (r_tw_t (x := κ (idF (gN g)) 0)).mono (fun o g9 κ9 z => ⟨z.1, Or.inr ⟨?_, ?_⟩⟩)
          · first
              | exact Or.inl c_22
              | exact Or.inr c_27
          · first
              | exact ⟨_, _, Or.inl ⟨c_43, rfl, rfl⟩, z.2.1, z.2.2⟩
              | exact ⟨_, _, Or.inr ⟨Int32.not_le.mp c_43, hz⟩, z.2.1, z.2.2⟩
        · skip
          exact nomatch q_51.1
    · skip
      refine k_aload_n d_R_takeWhole_30 rfl rfl ?_
      refine k_aload_n d_R_takeWhole_31 rfl rfl ?_
      refine k_getR d_R_takeWhole_32 fR_29 rfl (al_0 (by decide)) rfl rfl ?_
      refine k_call (As := [_]) d_R_takeWhole_35 lR_55 mv_R_show rfl rfl (al_0 (by decide)) rfl rfl rfl (Nat.le_of_ble_eq_true rfl) (by decide) (r_show (q := gN g) hA hG hCI9 ha hb hN hln hk9 hk2 hkc) (fun v_35 g_35 κ_35 q_35 => ?_) (fun E_35 g_35 κ_35 q_35 => ?_)
      · skip
        obtain ⟨e9, hz⟩ := q_35
        obtain rfl := Sum.inl.inj e9
        refine k_vret d_R_takeWhole_38 rfl ?_
        exact ⟨rfl, Or.inl ⟨⟨c_22, c_27⟩, hz⟩⟩
      · skip
        exact nomatch q_35.1

theorem r_kp_n {s0 : State} {l : Launch} {c : Cx} {g : Gh} {κ : Sg} {k : Int32} (h : k < 0 ∨ nI 20 ≤ k ∨ κ 4 2 ≤ k) : KC s0 l M_R_keptPicture c [.ref (gA g 3), .int k] g κ (fun o g' κ' => o = .inl (some .null) ∧ g' = g ∧ κ' = κ) := by
  refine k_in (by decide) rfl rfl (Nat.le_of_ble_eq_true rfl) (fun hB => ?_)
  refine k_iload_n d_R_keptPicture_0 rfl rfl ?_
  refine k_if_lt (tgt := 20) d_R_keptPicture_1 (by decide) (fun c_1 => ?_) (fun c_1 => ?_)
  · skip
    refine k_null d_R_keptPicture_20 ?_
    refine k_goto (tgt := 30) d_R_keptPicture_21 (by decide) ?_
    refine k_aret d_R_keptPicture_30 rfl (by first | exact Or.inl ⟨_, rfl⟩ | exact Or.inr ⟨_, rfl⟩) (by first | exact Or.inl rfl | exact Or.inr ⟨_, rfl⟩) ?_
    exact ⟨rfl, rfl, rfl⟩
  · skip
    refine k_iload_n d_R_keptPicture_4 rfl rfl ?_
    refine k_bipush (v := nI 20) d_R_keptPicture_5 (by decide) ?_
    refine k_icmp_ge (tgt := 20) d_R_keptPicture_7 (by decide) (fun c_7 => ?_) (fun c_7 => ?_)
    · skip
      refine k_null d_R_keptPicture_20 ?_
      refine k_goto (tgt := 30) d_R_keptPicture_21 (by decide) ?_
      refine k_aret d_R_keptPicture_30 rfl (by first | exact Or.inl ⟨_, rfl⟩ | exact Or.inr ⟨_, rfl⟩) (by first | exact Or.inl rfl | exact Or.inr ⟨_, rfl⟩) ?_
      exact ⟨rfl, rfl, rfl⟩
    · skip
      refine k_iload_n d_R_keptPicture_10 rfl rfl ?_
      refine k_aload_n d_R_keptPicture_11 rfl rfl ?_
      refine k_getR d_R_keptPicture_12 fR_9 rfl (al_0 (by decide)) rfl rfl ?_
      refine k_iconst (v := nI 2) d_R_keptPicture_15 (by decide) ?_
      refine k_iaload d_R_keptPicture_16 (al_0 (by decide)) rfl (show vp_in _ 8 from vp_in_nI (show 2 < 8 by decide) (by decide)) ?_
      refine k_icmp_lt (tgt := 24) d_R_keptPicture_17 (by decide) (fun c_17 => ?_) (fun c_17 => ?_)
      · skip
        exfalso
        rcases h with h | h | h
        · exact c_1 h
        · exact c_7 h
        · exact absurd (show k < κ 4 2 from c_17) (Int32.not_lt.mpr h)
      · skip
        refine k_null d_R_keptPicture_20 ?_
        refine k_goto (tgt := 30) d_R_keptPicture_21 (by decide) ?_
        refine k_aret d_R_keptPicture_30 rfl (by first | exact Or.inl ⟨_, rfl⟩ | exact Or.inr ⟨_, rfl⟩) (by first | exact Or.inl rfl | exact Or.inr ⟨_, rfl⟩) ?_
        exact ⟨rfl, rfl, rfl⟩

theorem r_kp_s {s0 : State} {l : Launch} {c : Cx} {g : Gh} {κ : Sg} {K : Nat} (hK : K < 20) (hc : K < gC g) (h : nI K < κ 4 2) : KC s0 l M_R_keptPicture c [.ref (gA g 3), .int (nI K)] g κ (fun o g' κ' => o = .inl (some (.ref (gA g (idP (3 + K))))) ∧ g' = g ∧ κ' = κ) := by
  refine k_in (by decide) rfl rfl (Nat.le_of_ble_eq_true rfl) (fun hB => ?_)
  refine k_iload_n d_R_keptPicture_0 rfl rfl ?_
  refine k_if_lt (tgt := 20) d_R_keptPicture_1 (by decide) (fun c_1 => ?_) (fun c_1 => ?_)
  · exact absurd c_1 (nI_pos (by omega))
  · skip
    refine k_iload_n d_R_keptPicture_4 rfl rfl ?_
    refine k_bipush (v := nI 20) d_R_keptPicture_5 (by decide) ?_
    refine k_icmp_ge (tgt := 20) d_R_keptPicture_7 (by decide) (fun c_7 => ?_) (fun c_7 => ?_)
    · exact absurd c_7 (nI_ge hK (by decide))
    · skip
      refine k_iload_n d_R_keptPicture_10 rfl rfl ?_
      refine k_aload_n d_R_keptPicture_11 rfl rfl ?_
      refine k_getR d_R_keptPicture_12 fR_9 rfl (al_0 (by decide)) rfl rfl ?_
      refine k_iconst (v := nI 2) d_R_keptPicture_15 (by decide) ?_
      refine k_iaload d_R_keptPicture_16 (al_0 (by decide)) rfl (show vp_in _ 8 from vp_in_nI (show 2 < 8 by decide) (by decide)) ?_
      refine k_icmp_lt (tgt := 24) d_R_keptPicture_17 (by decide) (fun c_17 => ?_) (fun c_17 => ?_)
      · skip
        refine k_aload_n d_R_keptPicture_24 rfl rfl ?_
        refine k_getR d_R_keptPicture_25 fR_17 rfl (al_0 (by decide)) rfl rfl ?_
        refine k_iload_n d_R_keptPicture_28 rfl rfl ?_
        refine k_aaload (ci := 1) d_R_keptPicture_29 (by decide) (al_0 (by decide)) rfl (show vp_in _ 20 from vp_in_nI hK (by decide)) (by rw [nI_clamp (by omega)]; exact if_pos hc) ?_
        refine k_aret d_R_keptPicture_30 rfl (by first | exact Or.inl ⟨_, rfl⟩ | exact Or.inr ⟨_, rfl⟩) (by first | exact Or.inl rfl | exact Or.inr ⟨_, rfl⟩) ?_
        exact ⟨rfl, rfl, rfl⟩
      · exact absurd h c_17

theorem r_kl_n1 {s0 : State} {l : Launch} {c : Cx} {g : Gh} {κ : Sg} {k p : Int32} (h : k < 0 ∨ nI 20 ≤ k ∨ κ 4 2 ≤ k) : KC s0 l M_R_keptPlane c [.ref (gA g 3), .int k, .int p] g κ (fun o g' κ' => o = .inl (some .null) ∧ g' = g ∧ κ' = κ) := by
  refine k_in (by decide) rfl rfl (Nat.le_of_ble_eq_true rfl) (fun hB => ?_)
  refine k_aload_n d_R_keptPlane_0 rfl rfl ?_
  refine k_iload_n d_R_keptPlane_1 rfl rfl ?_
  refine k_callw (As := [_]) d_R_keptPlane_2 lR_68 mv_R_keptPicture rfl rfl (al_0 (by decide)) rfl rfl rfl (Nat.le_of_ble_eq_true rfl) (by decide) (r_kp_n h) ?_
  refine k_astore_nN d_R_keptPlane_5 rfl (Nat.le_of_ble_eq_true rfl) ?_
  refine k_aload_nN d_R_keptPlane_6 rfl rfl ?_
  refine k_ifnullN (tgt := 23) d_R_keptPlane_7 (by decide) ?_
  refine k_null d_R_keptPlane_23 ?_
  refine k_aret d_R_keptPlane_24 rfl (by first | exact Or.inl ⟨_, rfl⟩ | exact Or.inr ⟨_, rfl⟩) (by first | exact Or.inl rfl | exact Or.inr ⟨_, rfl⟩) ?_
  exact ⟨rfl, rfl, rfl⟩

theorem r_kl_n2 {s0 : State} {l : Launch} {c : Cx} {g : Gh} {κ : Sg} {K : Nat} {p : Int32} (hK : K < 20) (hc : K < gC g) (h : nI K < κ 4 2) (hp : p < 0 ∨ nI 3 ≤ p) : KC s0 l M_R_keptPlane c [.ref (gA g 3), .int (nI K), .int p] g κ (fun o g' κ' => o = .inl (some .null) ∧ g' = g ∧ κ' = κ) := by
  refine k_in (by decide) rfl rfl (Nat.le_of_ble_eq_true rfl) (fun hB => ?_)
  refine k_aload_n d_R_keptPlane_0 rfl rfl ?_
  refine k_iload_n d_R_keptPlane_1 rfl rfl ?_
  refine k_callw (As := [_]) d_R_keptPlane_2 lR_68 mv_R_keptPicture rfl rfl (al_0 (by decide)) rfl rfl rfl (Nat.le_of_ble_eq_true rfl) (by decide) (r_kp_s hK hc h) ?_
  refine k_astore_n d_R_keptPlane_5 rfl (Nat.le_of_ble_eq_true rfl) ?_
  refine k_aload_n d_R_keptPlane_6 rfl rfl ?_
  refine k_ifnull d_R_keptPlane_7 ?_
  refine k_iload_n d_R_keptPlane_10 rfl rfl ?_
  refine k_if_lt (tgt := 23) d_R_keptPlane_11 (by decide) (fun c_11 => ?_) (fun c_11 => ?_)
  · skip
    refine k_null d_R_keptPlane_23 ?_
    refine k_aret d_R_keptPlane_24 rfl (by first | exact Or.inl ⟨_, rfl⟩ | exact Or.inr ⟨_, rfl⟩) (by first | exact Or.inl rfl | exact Or.inr ⟨_, rfl⟩) ?_
    exact ⟨rfl, rfl, rfl⟩
  · skip
    refine k_iload_n d_R_keptPlane_14 rfl rfl ?_
    refine k_aload_n d_R_keptPlane_15 rfl rfl ?_
    refine k_getR d_R_keptPlane_16 fR_72 rfl (al_P (show 3 + K < 3 + gC g by omega)) (kd_P (3 + K)) (pt_P0 g (3 + K)) ?_
    refine k_alenQ (ci := 2) d_R_keptPlane_19 (by decide) (al_A (show 3 + K < 3 + gC g by omega)) (kd_A (3 + K)) (ln_A g (3 + K)) ?_
    refine k_icmp_lt (tgt := 25) d_R_keptPlane_20 (by decide) (fun c_20 => ?_) (fun c_20 => ?_)
    · skip
      exfalso
      rcases hp with hp | hp
      · exact c_11 hp
      · exact absurd c_20 (Int32.not_lt.mpr hp)
    · skip
      refine k_null d_R_keptPlane_23 ?_
      refine k_aret d_R_keptPlane_24 rfl (by first | exact Or.inl ⟨_, rfl⟩ | exact Or.inr ⟨_, rfl⟩) (by first | exact Or.inl rfl | exact Or.inr ⟨_, rfl⟩) ?_
      exact ⟨rfl, rfl, rfl⟩

theorem r_kl_s {s0 : State} {l : Launch} {c : Cx} {g : Gh} {κ : Sg} {K P : Nat} (hK : K < 20) (hc : K < gC g) (h : nI K < κ 4 2) (hp : P < 3) : KC s0 l M_R_keptPlane c [.ref (gA g 3), .int (nI K), .int (nI P)] g κ (fun o g' κ' => o = .inl (some (.ref (gA g (idL (3 + K) P)))) ∧ g' = g ∧ κ' = κ) := by
  refine k_in (by decide) rfl rfl (Nat.le_of_ble_eq_true rfl) (fun hB => ?_)
  refine k_aload_n d_R_keptPlane_0 rfl rfl ?_
  refine k_iload_n d_R_keptPlane_1 rfl rfl ?_
  refine k_callw (As := [_]) d_R_keptPlane_2 lR_68 mv_R_keptPicture rfl rfl (al_0 (by decide)) rfl rfl rfl (Nat.le_of_ble_eq_true rfl) (by decide) (r_kp_s hK hc h) ?_
  refine k_astore_n d_R_keptPlane_5 rfl (Nat.le_of_ble_eq_true rfl) ?_
  refine k_aload_n d_R_keptPlane_6 rfl rfl ?_
  refine k_ifnull d_R_keptPlane_7 ?_
  refine k_iload_n d_R_keptPlane_10 rfl rfl ?_
  refine k_if_lt (tgt := 23) d_R_keptPlane_11 (by decide) (fun c_11 => ?_) (fun c_11 => ?_)
  · exact absurd c_11 (nI_pos (by omega))
  · skip
    refine k_iload_n d_R_keptPlane_14 rfl rfl ?_
    refine k_aload_n d_R_keptPlane_15 rfl rfl ?_
    refine k_getR d_R_keptPlane_16 fR_72 rfl (al_P (show 3 + K < 3 + gC g by omega)) (kd_P (3 + K)) (pt_P0 g (3 + K)) ?_
    refine k_alenQ (ci := 2) d_R_keptPlane_19 (by decide) (al_A (show 3 + K < 3 + gC g by omega)) (kd_A (3 + K)) (ln_A g (3 + K)) ?_
    refine k_icmp_lt (tgt := 25) d_R_keptPlane_20 (by decide) (fun c_20 => ?_) (fun c_20 => ?_)
    · skip
      refine k_aload_n d_R_keptPlane_25 rfl rfl ?_
      refine k_getR d_R_keptPlane_26 fR_72 rfl (al_P (show 3 + K < 3 + gC g by omega)) (kd_P (3 + K)) (pt_P0 g (3 + K)) ?_
      refine k_iload_n d_R_keptPlane_29 rfl rfl ?_
      refine k_aaload (ci := 2) d_R_keptPlane_30 (by decide) (al_A (show 3 + K < 3 + gC g by omega)) (kd_A (3 + K)) (show vp_in _ (lnI g (idA (3 + K))) by rw [ln_A]; exact vp_in_nI hp (by decide)) (by rw [nI_clamp (by omega)]; exact pt_A g (3 + K) hp) ?_
      refine k_aret d_R_keptPlane_31 rfl (by first | exact Or.inl ⟨_, rfl⟩ | exact Or.inr ⟨_, rfl⟩) (by first | exact Or.inl rfl | exact Or.inr ⟨_, rfl⟩) ?_
      exact ⟨rfl, rfl, rfl⟩
    · exact absurd (nI_lt hp (by decide)) c_20

