/-! ===== showing a picture ===== -/
theorem b255_8 : ∀ m, m < 256 → ((nI m).toInt8.toInt32 &&& nI 255) = nI m := by decide +kernel
theorem shP_f {A B q k : Nat} {g g' : Gh} {κ κ' : Sg} (hG : okG g) (hCI : CI g κ) (h : shP A B q k g κ g' κ') : (okG g' ∧ CI g' κ' ∧ (gN g' = gN g ∧ gT g' = gT g ∧ gO g' = gO g ∧ gX g' = gX g) ∧ gC g ≤ gC g') ∧ (∀ i j, (i < 13 ∨ (20 ≤ i ∧ i < 47)) → ¬ (i = 4 ∧ j = 2) → κ' i j = κ i j) ∧ κ' 4 2 = nI (k + 1) ∧ ∀ i, (i < 13 ∨ (20 ≤ i ∧ i < 47)) → gL g' i = gL g i := by
  rcases h with ⟨h1, h2, h3⟩ | ⟨h1, h2⟩
  · subst h2
    subst h3
    refine ⟨⟨hG, fun q p hq hp => ⟨(hCI q p hq hp).1, (su_k (by unfold idL; omega)).trans (hCI q p hq hp).2⟩, ⟨rfl, rfl, rfl, rfl⟩, Nat.le_refl _⟩, fun i j hi hij => ?_, su_at _ _ _ _, fun i hi => rfl⟩
    by_cases e : i = 4
    · subst e
      exact su_j (fun z => hij ⟨rfl, z⟩)
    · exact su_k e
  · obtain ⟨⟨a1, a2, a3, a4⟩, a5, a6, a7, a8, a9, a10, a11, a12, a13⟩ := h2
    have hal : ∀ i, (i < 13 ∨ (20 ≤ i ∧ i < 47)) → al g i := fun i hi => by unfold al; omega
    have nD : ∀ i, (i < 13 ∨ (20 ≤ i ∧ i < 47)) → ∀ p, i ≠ idD (3 + k) p := fun i hi p => by unfold idD; omega
    have nL : ∀ i, (i < 13 ∨ (20 ≤ i ∧ i < 47)) → ∀ p, i ≠ idL (3 + k) p := fun i hi p => by unfold idL; omega
    have nFF : ∀ i, (i < 13 ∨ (20 ≤ i ∧ i < 47)) → i ≠ idF (3 + k) := fun i hi => by unfold idF; omega
    refine ⟨⟨a5, a6, ⟨a1, a2, a3, a4⟩, a7⟩, fun i j hi hij => ?_, ?_, fun i hi => (a9 i (hal i hi) (fun p _ => nD i hi p)).2⟩
    · rw [a10 i (hal i hi) (fun p _ => ⟨nD i hi p, nL i hi p⟩) (nFF i hi) j]
      by_cases e : i = 4
      · subst e
        exact su_j (fun z => hij ⟨rfl, z⟩)
      · exact su_k e
    · rw [a10 4 (hal 4 (by omega)) (fun p _ => ⟨nD 4 (by omega) p, nL 4 (by omega) p⟩) (nFF 4 (by omega)) 2]
      exact su_at _ _ _ _
theorem at_lt {A B p i : Nat} (hA : 1 ≤ A ∧ A ≤ 4) (hB : 1 ≤ B ∧ B ≤ 4) (hp : p < 3) (hi : i < wdN A p * wdN B p) : atN A B p + i < 384 * A * B ∧ 384 * A * B ≤ 6144 := by
  obtain ⟨-, -, -, h1, h2, h3⟩ := dec_i hA hB hp hi
  have := idx_lt hA hB hp h1 h2
  omega
theorem KO.gx {A B k : Nat} {g g' : Gh} {κ κ' σ : Sg} (h : KO A B g k κ σ) (hC : gC g ≤ gC g') (hL : ∀ p, p < 3 → gL g' (idD (3 + k) p) = gL g (idD (3 + k) p)) (hk : ∀ p, p < 3 → ∀ j, κ' (idD (3 + k) p) j = κ (idD (3 + k) p) j ∧ κ' (idL (3 + k) p) j = κ (idL (3 + k) p) j) (hF : ∀ j, κ' (idF (3 + k)) j = κ (idF (3 + k)) j) : KO A B g' k κ' σ := by
  obtain ⟨h1, h2, h3, h4⟩ := h
  refine ⟨by omega, fun p hp => ?_, fun p i hp hi => ?_, fun j hj => ?_⟩
  · obtain ⟨a, b, c, d⟩ := h2 p hp
    unfold okP
    rw [(hk p hp 0).2, (hk p hp 1).2, (hk p hp 2).2, hL p hp]
    exact ⟨a, b, c, d⟩
  · rw [(hk p hp i).1]
    exact h3 p i hp hi
  · rw [hF j]
    exact h4 j hj
theorem shP_K {A B q k kk : Nat} {g g' : Gh} {κ κ' σ : Sg} {a b c d : Int32} (hA : okAB A B) (hq : q < 3) (hk : σ 22 0 = nI k) (hk2 : k < 2000) (hK : ∀ j, j < 20 → j < k → KO A B g j κ σ) (hD : DR A B q kk (fun _ _ => True) κ σ) (h0 : κ (idF q) 0 = a) (h1 : κ (idF q) 1 = b) (h2 : κ (idF q) 2 = c) (h3 : κ (idF q) 3 = d) (h : shP A B q k g κ g' κ') : KP A B g' κ' (fSh σ A B kk k a b c d) := by
  have e22 : fSh σ A B kk k a b c d 22 0 = nI (k + 1) := su_at _ _ _ _
  refine ⟨k + 1, e22, by omega, fun j hj hj2 => ?_⟩
  rcases h with ⟨g1, g2, g3⟩ | ⟨g1, g2⟩
  · have hjk : j < k := by omega
    subst g2
    subst g3
    have h := hK j hj hjk
    have e : kp [22] σ (fSh σ A B kk k a b c d) := by
      unfold fSh
      rw [if_neg (by omega)]
      exact kp.su (by decide)
    refine (h.gx (Nat.le_refl _) (fun _ _ => rfl) (fun p hp j => ⟨su_k (nid (by decide)), su_k (by unfold idL; omega)⟩) (fun j => su_k (nF (by decide)))).cs e (by decide) (by decide)
  · have e18 : ∀ i, fSh σ A B kk k a b c d 18 i = if 6144 * k ≤ i ∧ i < 6144 * k + 384 * A * B then (σ kk (i - 6144 * k)).toInt8.toInt32 else σ 18 i := fun i => by
      unfold fSh
      rw [if_pos g1, su_k (by decide), su_k (by decide), su_k (by decide), su_k (by decide), su_k (by decide)]
      unfold fShd
      rw [sa_at]
    have e19 : ∀ i, fSh σ A B kk k a b c d 19 i = if i = 4 * k then a else if i = 4 * k + 1 then b else if i = 4 * k + 2 then c else if i = 4 * k + 3 then d else σ 19 i := fun i => by
      unfold fSh
      rw [if_pos g1, su_k (by decide)]
      by_cases q3 : i = 4 * k + 3
      · rw [q3, su_at, if_neg (by omega), if_neg (by omega), if_neg (by omega), if_pos rfl]
      · rw [su_j q3]
        by_cases q2 : i = 4 * k + 2
        · rw [q2, su_at, if_neg (by omega), if_neg (by omega), if_pos rfl]
        · rw [su_j q2]
          by_cases q1 : i = 4 * k + 1
          · rw [q1, su_at, if_neg (by omega), if_pos rfl]
          · rw [su_j q1]
            by_cases q0 : i = 4 * k
            · rw [q0, su_at, if_pos rfl]
            · rw [su_j q0, if_neg q0, if_neg q1, if_neg q2, if_neg q3]
              unfold fShd
              exact sa_k (by decide)
    obtain ⟨⟨a1, a2, a3, a4⟩, a5, a6, a7, a8, a9, a10, a11, a12, a13⟩ := g2
    by_cases hjk : j = k
    · subst hjk
      refine ⟨a8, a11, fun p i hp hi => ?_, fun i hi => ?_⟩
      · obtain ⟨l1, l2⟩ := at_lt hA.1 hA.2 hp hi
        obtain ⟨m, m1, m2, m3⟩ := hD p i hp hi trivial
        rw [a12 p i hp hi, e18, if_pos (by omega), show 6144 * j + (atN A B p + i) - 6144 * j = atN A B p + i by omega, m3, b255_8 m (by omega)]
        exact (su_k (nid (by decide))).trans m2
      · rw [a13 i hi, e19]
        rcases (show i = 0 ∨ i = 1 ∨ i = 2 ∨ i = 3 by omega) with rfl | rfl | rfl | rfl
        · rw [if_pos (by omega)]; exact (su_k (nF (by decide))).trans h0
        · rw [if_neg (by omega), if_pos (by omega)]; exact (su_k (nF (by decide))).trans h1
        · rw [if_neg (by omega), if_neg (by omega), if_pos (by omega)]; exact (su_k (nF (by decide))).trans h2
        · rw [if_neg (by omega), if_neg (by omega), if_neg (by omega), if_pos (by omega)]; exact (su_k (nF (by decide))).trans h3
    · have hj3 : j < k := by omega
      have h := hK j hj hj3
      have hc : j < gC g := h.1
      have nDD : ∀ p, p < 3 → ∀ p2, p2 < 3 → idD (3 + j) p ≠ idD (3 + k) p2 ∧ idD (3 + j) p ≠ idL (3 + k) p2 ∧ idL (3 + j) p ≠ idD (3 + k) p2 ∧ idL (3 + j) p ≠ idL (3 + k) p2 ∧ idD (3 + j) p ≠ idF (3 + k) ∧ idL (3 + j) p ≠ idF (3 + k) := fun p hp p2 hp2 => by
        unfold idD idL idF; omega
      have nFF : ∀ p2, p2 < 3 → idF (3 + j) ≠ idD (3 + k) p2 ∧ idF (3 + j) ≠ idL (3 + k) p2 ∧ idF (3 + j) ≠ idF (3 + k) := fun p2 hp2 => by
        unfold idD idL idF; omega
      have h' := h.gx (g' := g') (κ' := κ') a7 (fun p hp => (a9 _ (al_D (by omega) hp) (fun p2 hp2 => (nDD p hp p2 hp2).1)).2) (fun p hp i => ⟨(a10 _ (al_D (by omega) hp) (fun p2 hp2 => ⟨(nDD p hp p2 hp2).1, (nDD p hp p2 hp2).2.1⟩) (nDD p hp 0 (by decide)).2.2.2.2.1 i).trans (su_k (nid (by decide))), (a10 _ (al_L (by omega) hp) (fun p2 hp2 => ⟨(nDD p hp p2 hp2).2.2.1, (nDD p hp p2 hp2).2.2.2.1⟩) (nDD p hp 0 (by decide)).2.2.2.2.2 i).trans (su_k (by unfold idL; omega))⟩) (fun i => (a10 _ (al_F (by omega)) (fun p2 hp2 => ⟨(nFF p2 hp2).1, (nFF p2 hp2).2.1⟩) (nFF 0 (by decide)).2.2 i).trans (su_k (nF (by decide))))
      obtain ⟨b1, b2, b3, b4⟩ := h'
      refine ⟨b1, b2, fun p i hp hi => ?_, fun i hi => ?_⟩
      · obtain ⟨l1, l2⟩ := at_lt hA.1 hA.2 hp hi
        rw [b3 p i hp hi, e18, if_neg (by omega)]
      · rw [b4 i hi, e19, if_neg (by omega), if_neg (by omega), if_neg (by omega), if_neg (by omega)]
theorem kp_sh3 (σ : Sg) (A B k sh : Nat) (a b c d : Int32) : kp [18, 19, 22] σ (fSh σ A B k sh a b c d) := by
  unfold fSh
  refine kp.trans ?_ (kp.su (by decide))
  split
  · unfold fShd
    exact ((((kp.sa (by decide)).trans (kp.su (by decide))).trans (kp.su (by decide))).trans (kp.su (by decide))).trans (kp.su (by decide))
  · exact kp.refl _ _
theorem DR.gk {A B q k : Nat} {S : Nat → Nat → Prop} {κ κ' σ : Sg} (h : DR A B q k S κ σ) (e : ∀ p, p < 3 → ∀ j, κ' (idD q p) j = κ (idD q p) j) : DR A B q k S κ' σ := fun p i hp hi hs => by
  rw [e p hp]
  exact h p i hp hi hs
theorem id_3 {q p : Nat} (hq : q < 3) (hp : p < 3) : (20 ≤ idD q p ∧ idD q p < 47) ∧ (20 ≤ idL q p ∧ idL q p < 47) ∧ (20 ≤ idF q ∧ idF q < 47) := by
  unfold idD idL idF; omega
theorem OX.show0 {A B q k kk : Nat} {g g' : Gh} {κ κ' σ : Sg} {a b c d : Int32} (hO : OX A B g κ σ) (hTA : TA κ σ) (hk : σ 22 0 = nI k) (hk2 : k < 2000) (hq : q < 3) (hD : DR A B q kk (fun _ _ => True) κ σ) (h0 : κ (idF q) 0 = a) (h1 : κ (idF q) 1 = b) (h2 : κ (idF q) 2 = c) (h3 : κ (idF q) 3 = d) (h : shP A B q k g κ g' κ') : OX A B g' κ' (fSh σ A B kk k a b c d) ∧ (TRel κ σ → TRel κ' (fSh σ A B kk k a b c d)) ∧ TA κ' (fSh σ A B kk k a b c d) := by
  have hO' := hO
  obtain ⟨⟨o1, o2, o3, o4, o5, o6, o7, o8⟩, o9, o10, sh, s1, s2, s3⟩ := hO
  obtain ⟨⟨f1, f2, ⟨f3, f4, f5, f6⟩, f7⟩, f8, f9, f10⟩ := shP_f o1 o3 h
  have esh : sh = k := (nI_eq (by omega) (by omega)).mp (s1.symm.trans hk)
  subst esh
  have hK := shP_K o2 hq hk hk2 s3 hD h0 h1 h2 h3 h
  have e := kp_sh3 σ A B kk sh a b c d
  have c3 : ∀ j, κ' 3 j = κ 3 j := fun j => f8 3 j (by omega) (by omega)
  have cD : ∀ q, q < 3 → ∀ p, p < 3 → ∀ j, κ' (idD q p) j = κ (idD q p) j := fun q hq p hp j => f8 _ j (Or.inr (id_3 hq hp).1) (fun z => by have := (id_3 hq hp).1; omega)
  have cF : ∀ q, q < 3 → ∀ j, κ' (idF q) j = κ (idF q) j := fun q hq j => f8 _ j (Or.inr (id_3 (p := 0) hq (by decide)).2.2) (fun z => by have := (id_3 (p := 0) hq (by decide)).2.2; omega)
  have cZ : ∀ q, q < 3 → szQ A B g q → szQ A B g' q := fun q hq hz p hp => by
    rw [f10 _ (Or.inr (id_3 hq hp).1)]
    exact hz p hp
  refine ⟨⟨⟨f1, o2, f2, (c3 2).trans o4, (c3 3).trans o5, o6.kp e (by decide), o7.kp e (by decide), ?_⟩, fun z => ?_, fun z => ?_, hK⟩, fun hT => ?_, fun j hj => ?_⟩
  · obtain ⟨L, l1, l2, l3, l4⟩ := o8
    refine ⟨L, l1, (c3 7).trans l2, ?_, ?_⟩
    · rw [e 12 (by decide)]; exact l3
    · rw [e 13 (by decide)]; exact l4
  · rw [e 12 (by decide)] at z
    obtain ⟨z1, z2, z3⟩ := o9 z
    rw [f4]
    refine ⟨(z1.gk (cD _ o1.1.2.1)).cs e (by decide), cZ _ o1.1.2.1 z2, fun j hj => ?_⟩
    rw [cF _ o1.1.2.1, e (14 + j) (by simp; omega)]
    exact z3 j hj
  · rw [e 13 (by decide)] at z
    obtain ⟨z1, z2⟩ := o10 z
    rw [f5]
    exact ⟨(z1.gk (cD _ o1.1.2.2.1)).cs e (by decide), cZ _ o1.1.2.2.1 z2⟩
  · refine TRel.cs ?_ e (by decide) (by decide) (by decide) (by decide)
    obtain ⟨t1, t2, t3, t4, t5, t6⟩ := hT
    have e1 : ∀ j, κ' 1 j = κ 1 j := fun j => f8 1 j (by omega) (by omega)
    have e2 : ∀ j, κ' 2 j = κ 2 j := fun j => f8 2 j (by omega) (by omega)
    refine ⟨t1, (e1 2).trans t2, (e1 1).trans t3, t4, fun x j q1 q2 q3 => ?_, (e1 3).trans t6⟩
    rw [t5 x j q1 q2 q3]
    unfold bitv
    rw [e2]
  · by_cases ej : j = 2
    · subst ej
      rw [f9]
      exact (show fSh σ A B kk sh a b c d 22 0 = nI (sh + 1) from su_at _ _ _ _).symm
    · rw [f8 4 j (by omega) (fun z => ej z.2), hTA j hj]
      exact (e (20 + j) (by simp; omega) 0).symm
theorem OX.show {A B q k kk : Nat} {g g' : Gh} {κ κ' σ : Sg} {a b c d : Int32} (hO : OX A B g κ σ) (hT : TRel κ σ) (hTA : TA κ σ) (hk : σ 22 0 = nI k) (hk2 : k < 2000) (hq : q < 3) (hD : DR A B q kk (fun _ _ => True) κ σ) (h0 : κ (idF q) 0 = a) (h1 : κ (idF q) 1 = b) (h2 : κ (idF q) 2 = c) (h3 : κ (idF q) 3 = d) (h : shP A B q k g κ g' κ') : OX A B g' κ' (fSh σ A B kk k a b c d) ∧ TRel κ' (fSh σ A B kk k a b c d) ∧ TA κ' (fSh σ A B kk k a b c d) := by
  obtain ⟨x, y, z⟩ := hO.show0 hTA hk hk2 hq hD h0 h1 h2 h3 h
  exact ⟨x, y hT, z⟩
/-- one more is whole -/
theorem OX.w {A B : Nat} {g : Gh} {κ σ : Sg} (hO : OX A B g κ σ) (hT : TRel κ σ) (hA : TA κ σ) : OX A B g (su κ 4 3 (κ 4 3 + nI 1)) (ldW σ) ∧ TRel (su κ 4 3 (κ 4 3 + nI 1)) (ldW σ) ∧ TA (su κ 4 3 (κ 4 3 + nI 1)) (ldW σ) := by
  have k : kp [4] κ (su κ 4 3 (κ 4 3 + nI 1)) := kp.su (by decide)
  have e : kp [23] σ (ldW σ) := kp.su (by decide)
  have hO1 := hO.ck (k.mono (T := SI g) (by simp))
  obtain ⟨⟨o1, o2, o3, o4, o5, o6, o7, o8⟩, o9, o10, sh, s1, s2, s3⟩ := hO1
  refine ⟨⟨⟨o1, o2, o3, o4, o5, o6.kp e (by decide), o7.kp e (by decide), ?_⟩, fun z => ?_, fun z => ?_, sh, (e 22 (by decide) 0).trans s1, s2, fun j hj hj2 => (s3 j hj hj2).cs e (by decide) (by decide)⟩, (hT.ck k (by decide) (by decide)).cs e (by decide) (by decide) (by decide) (by decide), fun j hj => ?_⟩
  · obtain ⟨L, l1, l2, l3, l4⟩ := o8
    refine ⟨L, l1, l2, ?_, ?_⟩
    · rw [e 12 (by decide)]; exact l3
    · rw [e 13 (by decide)]; exact l4
  · rw [e 12 (by decide)] at z
    obtain ⟨z1, z2, z3⟩ := o9 z
    refine ⟨z1.cs e (by decide), z2, fun j hj => ?_⟩
    rw [e (14 + j) (by simp; omega)]
    exact z3 j hj
  · rw [e 13 (by decide)] at z
    obtain ⟨z1, z2⟩ := o10 z
    exact ⟨z1.cs e (by decide), z2⟩
  · by_cases ej : j = 3
    · subst ej
      rw [su_at, hA 3 hj]
      exact (show ldW σ 23 0 = _ from su_at _ _ _ _).symm
    · rw [su_j ej, hA j hj]
      exact (e (20 + j) (by simp; omega) 0).symm
theorem cp_at {σ : Sg} {d s n j : Nat} (h : j < n) : fCp σ d s n d j = σ s j := by
  unfold fCp
  rw [sa_at, if_pos h]
theorem kp_cp (σ : Sg) (d s n : Nat) : kp [d] σ (fCp σ d s n) := kp.sa (by simp)
/-- the new one is the latest now -/
theorem OX.rot {A B : Nat} {g : Gh} {n : Int32} {κ σ τ : Sg} (hO : OX A B g κ σ) (hT : TRel κ σ) (hA : TA κ σ) (hD : DR A B (gN g) 9 (fun _ _ => True) κ σ) (hz : szQ A B g (gN g)) (h0 : κ (idF (gN g)) 0 = σ 34 0) (h1 : κ (idF (gN g)) 1 = n) (h2 : κ (idF (gN g)) 2 = σ 40 0) (h3 : κ (idF (gN g)) 3 = σ 41 0)
    (ht : (σ 12 0 = 0 ∧ τ = σ) ∨ (¬ σ 12 0 = 0 ∧ τ = su (fCp σ 11 10 6144) 13 0 (nI 1))) : OX A B (rotG g) (twK κ) (ldB n τ) ∧ TRel (twK κ) (ldB n τ) ∧ TA (twK κ) (ldB n τ) := by
  obtain ⟨⟨o1, o2, o3, o4, o5, o6, o7, L, l1, l2, l3, l4⟩, o9, o10, sh, s1, s2, s3⟩ := hO
  have k : kp [3] κ (twK κ) := kp.su (by decide)
  have eT : kp [11, 13] σ τ := by
    rcases ht with ⟨-, rfl⟩ | ⟨-, rfl⟩
    · exact kp.refl _ _
    · exact ((kp_cp σ 11 10 6144).mono (by decide)).trans (kp.su (by decide))
  have eB : kp [10, 12, 14, 15, 16, 17] τ (ldB n τ) := by
    unfold ldB
    exact ((((((kp_cp τ 10 9 6144).mono (by decide)).trans (kp.su (by decide))).trans (kp.su (by decide))).trans (kp.su (by decide))).trans (kp.su (by decide))).trans (kp.su (by decide))
  have eA : kp [10, 11, 12, 13, 14, 15, 16, 17] σ (ldB n τ) := (eT.mono (by decide)).trans (eB.mono (by decide))
  have t9 : ∀ j, τ 9 j = σ 9 j := fun j => eT 9 (by decide) j
  have b10 : ∀ j, j < 6144 → ldB n τ 10 j = σ 9 j := fun j hj => by
    unfold ldB
    rw [su_k (by decide), su_k (by decide), su_k (by decide), su_k (by decide), su_k (by decide), cp_at hj, t9]
  have b11 : ∀ j, ldB n τ 11 j = τ 11 j := fun j => eB 11 (by decide) j
  have b12 : ldB n τ 12 0 = nI 1 := by
    unfold ldB
    rw [su_k (by decide), su_k (by decide), su_k (by decide), su_k (by decide), su_at]
  have b13 : ldB n τ 13 0 = τ 13 0 := eB 13 (by decide) 0
  have b14 : ldB n τ 14 0 = σ 34 0 := by
    unfold ldB
    rw [su_k (by decide), su_k (by decide), su_k (by decide), su_at]
    exact eT 34 (by decide) 0
  have b15 : ldB n τ 15 0 = n := by
    unfold ldB
    rw [su_k (by decide), su_k (by decide), su_at]
  have b16 : ldB n τ 16 0 = σ 40 0 := by
    unfold ldB
    rw [su_k (by decide), su_at]
    exact eT 40 (by decide) 0
  have b17 : ldB n τ 17 0 = σ 41 0 := by
    unfold ldB
    rw [su_at]
    exact eT 41 (by decide) 0
  have kD : ∀ q p, p < 3 → idD q p ∉ [3] := fun q p hp => by simp; exact nid (by decide)
  have kF : ∀ q, idF q ∉ [3] := fun q => by simp; exact nF (by decide)
  have kL : ∀ q p, idL q p ∉ [3] := fun q p => by simp; unfold idL; omega
  refine ⟨⟨⟨⟨⟨o1.1.2.2.1, o1.1.1, o1.1.2.1, Ne.symm o1.1.2.2.2.2.1, Ne.symm o1.1.2.2.2.2.2, o1.1.2.2.2.1⟩, o1.2⟩, o2, fun q p hq hp => ⟨(o3 q p hq hp).1, (k _ (kL q p) 0).trans (o3 q p hq hp).2⟩, (su_j (by decide)).trans o4, (su_j (by decide)).trans o5, o6.kp eA (by decide), o7.kp eA (by decide), ?_⟩, fun _ => ⟨fun p i hp hi _ => ?_, hz, fun j hj => ?_⟩, fun z => ?_, sh, (eA 22 (by decide) 0).trans s1, s2, fun j hj hj2 => ?_⟩, (hT.ck k (by decide) (by decide)).cs eA (by decide) (by decide) (by decide) (by decide), (hA.ck k (by decide)).cs eA (by decide)⟩
  · have q7 : twK κ 3 7 = if κ 3 7 + nI 1 < nI 2 then κ 3 7 + nI 1 else nI 2 := su_at _ _ _ _
    unfold LN
    rw [b12, b13]
    rcases (show L = 0 ∨ L = 1 ∨ L = 2 by omega) with rfl | rfl | rfl
    · refine ⟨1, by decide, ?_, ⟨fun z => absurd z (by decide), fun z => absurd z (by decide)⟩, ?_⟩
      · rw [q7, l2]; decide
      · have h12 : σ 12 0 = 0 := l3.mpr (by decide)
        rcases ht with ⟨-, rfl⟩ | ⟨y, -⟩
        · exact ⟨fun _ => by decide, fun _ => l4.mpr (by decide)⟩
        · exact absurd h12 y
    · refine ⟨2, by decide, ?_, ⟨fun z => absurd z (by decide), fun z => absurd z (by decide)⟩, ?_⟩
      · rw [q7, l2]; decide
      · have h12 : ¬ σ 12 0 = 0 := fun z => absurd (l3.mp z) (by decide)
        rcases ht with ⟨y, -⟩ | ⟨-, rfl⟩
        · exact absurd y h12
        · rw [su_at]
          exact ⟨fun z => absurd z (by decide), fun z => absurd z (by decide)⟩
    · refine ⟨2, by decide, ?_, ⟨fun z => absurd z (by decide), fun z => absurd z (by decide)⟩, ?_⟩
      · rw [q7, l2]; decide
      · have h12 : ¬ σ 12 0 = 0 := fun z => absurd (l3.mp z) (by decide)
        rcases ht with ⟨y, -⟩ | ⟨-, rfl⟩
        · exact absurd y h12
        · rw [su_at]
          exact ⟨fun z => absurd z (by decide), fun z => absurd z (by decide)⟩
  · obtain ⟨q1, q2⟩ := at_lt o2.1 o2.2 hp hi
    show b255 (twK κ (idD (gN g) p) i) _
    rw [k _ (kD _ p hp), b10 _ (by omega)]
    exact hD p i hp hi trivial
  · show twK κ (idF (gN g)) j = _
    rw [k _ (kF _)]
    rcases (show j = 0 ∨ j = 1 ∨ j = 2 ∨ j = 3 by omega) with rfl | rfl | rfl | rfl
    · exact h0.trans b14.symm
    · exact h1.trans b15.symm
    · exact h2.trans b16.symm
    · exact h3.trans b17.symm
  · show DR A B (gT g) 11 _ (twK κ) _ ∧ szQ A B g (gT g)
    rw [b13] at z
    rcases ht with ⟨y, rfl⟩ | ⟨y, rfl⟩
    · have : L < 1 := l3.mp y
      exact absurd (l4.mpr (by omega)) z
    · obtain ⟨z1, z2, -⟩ := o9 y
      refine ⟨fun p i hp hi _ => ?_, z2⟩
      obtain ⟨q1, q2⟩ := at_lt o2.1 o2.2 hp hi
      rw [k _ (kD _ p hp), b11, su_k (by decide), cp_at (by omega)]
      exact z1 p i hp hi trivial
  · have h := s3 j hj hj2
    exact (KO.gx (g' := rotG g) (κ' := twK κ) h (Nat.le_refl _) (fun _ _ => rfl) (fun p hp i => ⟨k _ (kD _ p hp) i, k _ (kL _ _) i⟩) (fun i => k _ (kF _) i)).cs eA (by decide) (by decide)
def OT (A B : Nat) (g : Gh) (κ σ : Sg) : Prop := OX A B g κ σ ∧ TRel κ σ ∧ TA κ σ
def OW (A B : Nat) (g : Gh) (κ σ : Sg) : Prop := OX A B g κ σ ∧ TB κ σ ∧ κ 1 3 = σ 6 0 ∧ okR σ ∧ 0 ≤ σ 6 0
theorem OT.land {A B k : Nat} {g g' : Gh} {n : Int32} {κ κ' σ : Sg} (hO : OT A B g κ σ) (hD : DR A B (gN g) 9 (fun _ _ => True) κ σ) (hz : szQ A B g (gN g)) (hF : FC g n κ σ) (hS : SO σ) (hk : σ 22 0 = nI k) (hk2 : k < 2000) (h : tkW A B k g κ g' κ') : OT A B g' κ' (fLd A B n σ) ∧ gX g' = gX g := by
  obtain ⟨hO1, hT1, hA1⟩ := hO
  obtain ⟨f0, f1, f2, f3⟩ := hF
  obtain ⟨w1, w2, w3⟩ := hO1.w hT1 hA1
  have kw : kp [4] κ (su κ 4 3 (κ 4 3 + nI 1)) := kp.su (by decide)
  have ew : kp [23] σ (ldW σ) := kp.su (by decide)
  have hG := hO1.1.1
  have nF4 : ∀ q, idF q ∉ [4] := fun q => by simp; exact nF (by decide)
  have kF : ∀ q j, su κ 4 3 (κ 4 3 + nI 1) (idF q) j = κ (idF q) j := fun q j => kw _ (nF4 q) j
  have hDw : DR A B (gN g) 9 (fun _ _ => True) (su κ 4 3 (κ 4 3 + nI 1)) (ldW σ) := (hD.ck kw (fun p hp => by simp; exact nid (by decide))).cs ew (by decide)
  have hkw : ldW σ 22 0 = nI k := (ew 22 (by decide) 0).trans hk
  have hcl : (σ 22 0).toNatClampNeg = k := by rw [hk]; exact nI_clamp (by omega)
  rcases h with ⟨⟨q1, q2⟩, q3⟩ | ⟨q1, g2, κ2, q2, q3, q4⟩
  · have h34 : σ 34 0 = nI 3 := by
      rw [f0] at q1 q2
      exact (hS.1.resolve_left q1).resolve_left q2
    have e : fLd A B n σ = fSh (ldW σ) A B 9 k (nI 3) n (σ 40 0) (σ 41 0) := by
      unfold fLd
      rw [if_pos h34, hcl]
    rw [e]
    have hs := w1.show w2 w3 hkw hk2 hG.1.1 hDw ((kF _ 0).trans (f0.trans h34)) ((kF _ 1).trans f1) ((kF _ 2).trans f2) ((kF _ 3).trans f3) q3
    exact ⟨hs, (shP_f hG w1.1.2.2.1 q3).1.2.2.1.2.2.2⟩
  · have h34 : ¬ σ 34 0 = nI 3 := by
      rw [f0] at q1
      rcases q1 with q | q <;> rw [q] <;> decide
    have e : fLd A B n σ = ldB n (ldA A B (ldW σ)) := if_neg h34
    rw [e, q3, q4]
    obtain ⟨L, l1, l2, l3, l4⟩ := hO1.1.2.2.2.2.2.2.2
    have e12 : ldW σ 12 0 = σ 12 0 := ew 12 (by decide) 0
    rcases q2 with ⟨r1, r2, r3⟩ | ⟨r1, r2⟩
    · subst r2
      subst r3
      have h12 : ldW σ 12 0 = 0 := by
        rw [e12]
        refine l3.mpr (Nat.lt_of_not_le (fun z => ?_))
        rw [l2] at r1
        exact nI_nle (by omega) (by omega) r1
      have ea : ldA A B (ldW σ) = ldW σ := if_pos h12
      rw [ea]
      refine ⟨w1.rot w2 w3 hDw hz ?_ ?_ ?_ ?_ (Or.inl ⟨h12, rfl⟩), rfl⟩
      · rw [kF, ew 34 (by decide)]; exact f0
      · rw [kF]; exact f1
      · rw [kF, ew 40 (by decide)]; exact f2
      · rw [kF, ew 41 (by decide)]; exact f3
    · have h12 : ¬ ldW σ 12 0 = 0 := fun z => by
        rw [e12] at z
        have := l3.mp z
        have e0 : L = 0 := by omega
        rw [l2, e0] at r1
        exact absurd r1 (by decide)
      have hT := w1.2.1 h12
      have ea : ldA A B (ldW σ) = su (fCp (fSh (ldW σ) A B 10 k (ldW σ 14 0) (ldW σ 15 0) (ldW σ 16 0) (ldW σ 17 0)) 11 10 6144) 13 0 (nI 1) := by
        unfold ldA fLs
        rw [if_neg h12, hkw, nI_clamp (by omega)]
      rw [ea]
      obtain ⟨p1, p2, p3⟩ := w1.show w2 w3 hkw hk2 hG.1.2.1 hT.1 (hT.2.2 0 (by decide)) (hT.2.2 1 (by decide)) (hT.2.2 2 (by decide)) (hT.2.2 3 (by decide)) r2
      obtain ⟨⟨c1, c2, ⟨c3, c4, c5, c6⟩, c7⟩, c8, c9, c10⟩ := shP_f hG w1.1.2.2.1 r2
      have es := kp_sh3 (ldW σ) A B 10 k (ldW σ 14 0) (ldW σ 15 0) (ldW σ 16 0) (ldW σ 17 0)
      have cF : ∀ j, κ2 (idF (gN g)) j = su κ 4 3 (κ 4 3 + nI 1) (idF (gN g)) j := fun j => c8 _ j (Or.inr (id_3 (p := 0) hG.1.1 (by decide)).2.2) (fun z => by have := (id_3 (p := 0) hG.1.1 (by decide)).2.2; omega)
      refine ⟨p1.rot p2 p3 ?_ ?_ ?_ ?_ ?_ ?_ (Or.inr ⟨?_, rfl⟩), c6⟩
      · rw [c3]
        refine (hDw.gk (fun p hp j => ?_)).cs es (by decide)
        exact c8 _ j (Or.inr (id_3 hG.1.1 hp).1) (fun z => by have := (id_3 hG.1.1 hp).1; omega)
      · rw [c3]
        intro p hp
        rw [c10 _ (Or.inr (id_3 hG.1.1 hp).1)]
        exact hz p hp
      · rw [c3, cF, kF, es 34 (by decide), ew 34 (by decide)]; exact f0
      · rw [c3, cF, kF]; exact f1
      · rw [c3, cF, kF, es 40 (by decide), ew 40 (by decide)]; exact f2
      · rw [c3, cF, kF, es 41 (by decide), ew 41 (by decide)]; exact f3
      · rw [es 12 (by decide)]
        exact h12
/-- a picture begins -/
theorem OX.begin {A B : Nat} {g g' : Gh} {κ κ1 κ' σ : Sg} (hO : OX A B g κ σ) (h : rzQ A B (gN g) 3 g κ g' κ1) (k : kp [idF (gN g)] κ1 κ') : OX A B g' κ' σ ∧ okQ g' κ' (gN g') A B ∧ gN g' = gN g ∧ gX g' = gX g ∧ (∀ i, i < 20 → ∀ j, κ' i j = κ i j) ∧ ∀ i, i < 20 → gA g' i = gA g i := by
  have hO' := hO
  obtain ⟨⟨o1, o2, o3, o4, o5, o6, o7, L, l1, l2, l3, l4⟩, o9, o10, sh, s1, s2, s3⟩ := hO
  have hCI := o3.rz h
  obtain ⟨⟨a1, a2, a3, a4, a5⟩, a6, a7, a8, a9⟩ := h
  have nk : ∀ i, i ≠ idF (gN g) → ∀ j, κ' i j = κ1 i j := fun i hi j => k i (by simp; exact hi) j
  have c0 : ∀ i, i < 20 → ∀ j, κ' i j = κ i j := fun i hi j => by
    rw [nk i (fun z => nF hi z.symm), a8 i (fun p hp => ⟨fun z => nid hi z.symm, fun z => by unfold idL at z; omega⟩)]
  have cD : ∀ q, q ≠ gN g → ∀ p, p < 3 → ∀ j, κ' (idD q p) j = κ (idD q p) j := fun q hq p hp j => by
    rw [nk _ (by unfold idD idF; omega), a8 _ (fun p2 hp2 => ⟨id_DD hp hp2 hq, fun z => id_LD _ _ _ _ hp2 hp z.symm⟩)]
  have cL : ∀ q, q ≠ gN g → ∀ p, p < 3 → ∀ j, κ' (idL q p) j = κ (idL q p) j := fun q hq p hp j => by
    rw [nk _ (by unfold idL idF; omega), a8 _ (fun p2 hp2 => ⟨id_LD _ _ _ _ hp hp2, by unfold idL; omega⟩)]
  have cF : ∀ q, q ≠ gN g → ∀ j, κ' (idF q) j = κ (idF q) j := fun q hq j => by
    rw [nk _ (by unfold idF; omega), a8 _ (fun p2 hp2 => ⟨by unfold idF idD; omega, by unfold idF idL; omega⟩)]
  have cG : ∀ q, q ≠ gN g → ∀ p, p < 3 → gL g' (idD q p) = gL g (idD q p) := fun q hq p hp => (a6 _ (fun p2 hp2 => id_DD hp hp2 hq)).2
  have hNT : gT g ≠ gN g := o1.1.2.2.2.1.symm
  have hNO : gO g ≠ gN g := o1.1.2.2.2.2.1.symm
  refine ⟨⟨⟨⟨by rw [a1, a2, a3]; exact o1.1, by rw [a4]; exact o1.2⟩, o2, fun q p hq hp => ⟨(hCI q p hq hp).1, (nk _ (by unfold idL idF; omega) 0).trans (hCI q p hq hp).2⟩, (c0 3 (by decide) 2).trans o4, (c0 3 (by decide) 3).trans o5, o6, o7, L, l1, (c0 3 (by decide) 7).trans l2, l3, l4⟩, fun z => ?_, fun z => ?_, sh, s1, s2, fun j hj hj2 => ?_⟩, fun p hp => ?_, a1, a5, c0, fun i hi => (a6 i (fun p hp z => nid hi z.symm)).1⟩
  · rw [a2]
    obtain ⟨z1, z2, z3⟩ := o9 z
    exact ⟨z1.gk (cD _ hNT), fun p hp => by rw [cG _ hNT p hp]; exact z2 p hp, fun j hj => (cF _ hNT j).trans (z3 j hj)⟩
  · rw [a3]
    obtain ⟨z1, z2⟩ := o10 z
    exact ⟨z1.gk (cD _ hNO), fun p hp => by rw [cG _ hNO p hp]; exact z2 p hp⟩
  · have hne : 3 + j ≠ gN g := by have := o1.1.1; omega
    exact (s3 j hj hj2).gx (by rw [a4]; exact Nat.le_refl _) (fun p hp => cG _ hne p hp) (fun p hp i => ⟨cD _ hne p hp i, cL _ hne p hp i⟩) (fun i => cF _ hne i)
  · rw [a1]
    have hq : gN g < 3 + gC g := by have := o1.1.1; omega
    refine ⟨(nk _ (by unfold idL idF; omega) 0).trans (((a9 p hp).1).trans (o3 _ p hq hp).2), (nk _ (by unfold idL idF; omega) 1).trans (a9 p hp).2.1, (nk _ (by unfold idL idF; omega) 2).trans (a9 p hp).2.2, a7 p hp⟩
theorem shP_A {A B q k : Nat} {g g' : Gh} {κ κ' : Sg} (h : shP A B q k g κ g' κ') : ∀ i, i < 13 → gA g' i = gA g i := by
  intro i hi
  rcases h with ⟨-, h2, -⟩ | ⟨-, h2⟩
  · rw [h2]
  · exact (h2.2.2.2.2.2.1 i (Or.inl hi) (fun p _ => by unfold idD; omega)).1
theorem tkW_A {A B k : Nat} {g g' : Gh} {κ κ' : Sg} (h : tkW A B k g κ g' κ') : ∀ i, i < 13 → gA g' i = gA g i := by
  intro i hi
  rcases h with ⟨-, h⟩ | ⟨-, g2, κ2, h, h2, -⟩
  · exact shP_A h i hi
  · rw [h2]
    show gA g2 i = _
    rcases h with ⟨-, h, -⟩ | ⟨-, h⟩
    · rw [h]
    · exact shP_A h i hi
theorem OX.gx {A B : Nat} {g : Gh} {κ σ : Sg} (h : OX A B g κ σ) : OX A B (gx g) κ σ := h
theorem KP.hkc {A B sh : Nat} {g : Gh} {κ σ : Sg} (h : KP A B g κ σ) (e : σ 22 0 = nI sh) (hs : sh < 2 ^ 30) : sh < 20 → sh ≤ gC g := by
  obtain ⟨s, s1, s2, s3⟩ := h
  have : s = sh := (nI_eq (by omega) (by omega)).mp (s1.symm.trans e)
  subst this
  intro h
  rcases Nat.eq_zero_or_pos s with h0 | h0
  · omega
  · have := (s3 (s - 1) (by omega) (by omega)).1
    omega
/-- how reading a picture ends -/
def RP (A B : Nat) (n : Int32) (g : Gh) (r : Int32 × Sg) (o : Out) (g' : Gh) (κ' : Sg) : Prop := (∀ i, i < 13 → gA g' i = gA g i) ∧ ((¬ r.1 = 0 ∧ o = .inl none ∧ gX g' = gX g ∧ OT A B g' κ' (fLd A B n r.2)) ∨ (r.1 = 0 ∧ o = .inr ISE ∧ gX g' = gX g + 1 ∧ OW A B g' κ' r.2))
theorem OT.read {A B : Nat} {g : Gh} {κ σ σ' : Sg} (h : OT A B g κ σ) (e : tk σ σ') (r : okR σ') (hw : σ' 6 0 = -1) : OT A B g (su κ 1 2 (σ' 4 0)) σ' := by
  have k : kp [1] κ (su κ 1 2 (σ' 4 0)) := kp.su (by decide)
  have e' := tk_kp e
  exact ⟨(h.1.ck (k.mono (T := SI g) (by simp))).cs (e'.mono (by decide)), h.2.1.next e r hw, (h.2.2.ck k (by decide)).cs e' (by decide)⟩
theorem sq_lt {A B p i : Nat} (hA : 1 ≤ A ∧ A ≤ 4) (hB : 1 ≤ B ∧ B ≤ 4) (hp : p < 3) (hi : i < wdN A p * wdN B p) : sqN A p i < A * B := by
  obtain ⟨-, -, -, h1, h2, h3⟩ := dec_i hA hB hp hi
  obtain ⟨q1, q2, q3⟩ := sq_q (p := p) (i := i) hA
  have hz := szN_pos p
  have h4 : i / wdN A p / szN p < B := by
    rw [wdN_sz B p] at h2
    exact Nat.div_lt_of_lt_mul h2
  unfold sqN
  have : (i / wdN A p / szN p + 1) * A ≤ B * A := Nat.mul_le_mul_right A h4
  rw [Nat.add_mul, Nat.one_mul, Nat.mul_comm B A] at this
  omega
theorem BT.all {A B : Nat} {g : Gh} {n : Int32} {κ σ : Sg} (h : BT A B (A * B) g n κ σ) : DR A B (gN g) 9 (fun _ _ => True) κ σ ∧ szQ A B g (gN g) := by
  obtain ⟨h1, h2, h3, h4, h5, h6, h7⟩ := h
  exact ⟨h6.mono (fun p i hp hi _ => sq_lt h1.1.2.1.1 h1.1.2.1.2 hp hi), fun p hp => (h1.1.2.2.2.1 p hp).2.2.2.1⟩
/-- the first square's state -/
theorem BT.new {A B : Nat} {g : Gh} {n : Int32} {κ σ : Sg} (hX : SX A B g κ σ) (hR : HR σ κ) (h0 : κ (idF (gN g)) 0 = σ 34 0) (h1 : κ (idF (gN g)) 1 = n) (h2 : κ (idF (gN g)) 2 = nI 0) (h3 : κ (idF (gN g)) 3 = nI 0) : BT A B 0 g n κ σ :=
  ⟨hX, hR.1, hR.2.1, hR.2.2.1, ⟨h0, h1, h2.trans hR.2.2.2.1.symm, h3.trans hR.2.2.2.2.symm⟩, fun p i _ _ z => absurd z (Nat.not_lt_zero _), fun z => absurd (Nat.zero_mod A) z⟩
theorem kq_po (A B s : Nat) (σ : Sg) : kq σ (fPo A B s σ).2 := by
  unfold fPo
  split
  · exact kq_u 22 0 σ
  · exact (kq_u 22 0 σ).trans (kq_ps A B s _ _ _)
theorem as_0 {A B s f : Nat} {σ : Sg} (h : A * B ≤ s) : fAS A B f s σ = asE σ := by
  cases f with
  | zero => rfl
  | succ f => unfold fAS; rw [if_pos h]
theorem as_1 {A B s f : Nat} {σ : Sg} (h : s < A * B) (h1 : σ 34 0 = nI 1) : fAS A B (f + 1) s σ = if (fSq A B s (fPa A s σ)).1 = 0 then (nI 0, (fSq A B s (fPa A s σ)).2) else fAS A B f (s + 1) (fSq A B s (fPa A s σ)).2 := by
  rw [fAS, if_neg (by omega), if_pos (by rw [h1]; decide)]
theorem as_2 {A B s f m : Nat} {σ : Sg} (h : s < A * B) (h1 : σ 34 0 = nI 2 ∨ σ 34 0 = nI 3) : ((fPo A B s σ).1 = 0 → fAS A B (f + 1) s σ = (nI 0, (fPo A B s σ).2)) ∧ (¬ (fPo A B s σ).1 = 0 → (fU 22 0 σ).1 = nI m → m < 2 ^ 30 → fAS A B (f + 1) s σ = if s + m = A * B then asE (fPo A B s σ).2 else if (fSq A B (s + m) (fPa A (s + m) (fPo A B s σ).2)).1 = 0 then (nI 0, (fSq A B (s + m) (fPa A (s + m) (fPo A B s σ).2)).2) else fAS A B f (s + m + 1) (fSq A B (s + m) (fPa A (s + m) (fPo A B s σ).2)).2) := by
  have hn : ¬ σ 34 0 ≤ nI 1 := by rcases h1 with e | e <;> rw [e] <;> decide
  rw [fAS, if_neg (by omega), if_neg hn]
  by_cases h2 : 0 ≤ (fU 22 0 σ).2 6 0
  · have e : fPo A B s σ = (nI 0, (fU 22 0 σ).2) := if_pos h2
    rw [e, if_pos h2]
    exact ⟨fun _ => rfl, fun z => absurd rfl z⟩
  · have e : fPo A B s σ = fPs A B s (fU 22 0 σ).1.toNatClampNeg (σ 4 0) (fU 22 0 σ).2 := if_neg h2
    rw [if_neg h2, e]
    constructor
    · intro z
      rw [if_pos z]
    · intro z hm hm2
      rw [if_neg z, hm, nI_clamp (by omega)]
