/-! ===== foretelling: a square ===== -/
theorem told0 {σ : Sg} {A B p k x y : Nat} (hD : okD σ A B) (hp : p < 3) (hx : x < wdN A p) (hy : y < wdN B p) : fBt σ k (nI p) (nI 2 * nI x + 0) (nI 2 * nI y + 0) = σ k (atN A B p + (wdN A p * y + x)) := by
  have hA := wd_r (A := A) (p := p) ⟨hD.2.2.1, hD.2.2.2.1⟩
  have hB := wd_r (A := B) (p := p) ⟨hD.2.2.2.2.1, hD.2.2.2.2.2⟩
  have hr : ∀ u, u < 100 → rm2 (nI 2 * nI u + 0) = 0 ∧ h1 (nI 2 * nI u + 0) = nI u := fun u hu => by
    have e := i2x (x := u) (a := 0) hu (by decide)
    constructor
    · rw [rm2_0, e]
      show (2 * (u:Int) + 0) % 2 = 0
      omega
    · apply Int32.toInt_inj.mp
      have := hf_i (nI 2 * nI u + 0)
      show (hf _).toInt = _
      rw [this, e, nI_toInt (by omega)]
      show (2 * (u:Int) + 0) / 2 = u
      omega
  unfold fBt
  rw [if_pos ⟨(hr x (by omega)).1, (hr y (by omega)).1⟩, (hr x (by omega)).2, (hr y (by omega)).2]
  obtain ⟨e, -⟩ := fDot_e (k := k) hD hp (nI x) (nI y)
  rw [e]
  have hc : ∀ u w, u < w → w ≤ 64 → cLm (nI u) w = u := fun u w hu hw => by
    obtain ⟨e1, e2⟩ := hel_cl (x := nI u) (w := w) (by omega) (by omega)
    have : cl (nI u) (nI w) = nI u := by
      unfold cl
      rw [if_pos (nI_pos' (by omega)), if_pos (nI_lt hu (by omega))]
    exact ((nI_eq (by omega) (by omega)).mp (this.symm.trans e1)).symm
  rw [hc x _ hx hA.2, hc y _ hy hB.2]
def sqN (A p i : Nat) : Nat := i / wdN A p / szN p * A + i % wdN A p / szN p
theorem dec_i {A B p i : Nat} (hA : 1 ≤ A ∧ A ≤ 4) (hB : 1 ≤ B ∧ B ≤ 4) (hp : p < 3) (hi : i < wdN A p * wdN B p) : plN A B (atN A B p + i) = p ∧ xN A B (atN A B p + i) = i % wdN A p ∧ yN A B (atN A B p + i) = i / wdN A p ∧ i % wdN A p < wdN A p ∧ i / wdN A p < wdN B p ∧ wdN A p * (i / wdN A p) + i % wdN A p = i := by
  have hw := wd_r (A := A) (p := p) hA
  have h1 : i % wdN A p < wdN A p := Nat.mod_lt _ (by omega)
  have h2 : i / wdN A p < wdN B p := Nat.div_lt_of_lt_mul hi
  have e : wdN A p * (i / wdN A p) + i % wdN A p = i := Nat.div_add_mod _ _
  have h := dec_n hA hB hp h1 h2
  rw [Nat.add_assoc, e] at h
  exact ⟨h.1, h.2.1, h.2.2, h1, h2, e⟩
theorem sq_q {A p i : Nat} (hA : 1 ≤ A ∧ A ≤ 4) : i % wdN A p / szN p < A ∧ sqN A p i % A = i % wdN A p / szN p ∧ sqN A p i / A = i / wdN A p / szN p := by
  have hw := wd_r (A := A) (p := p) hA
  have h1 : i % wdN A p < wdN A p := Nat.mod_lt _ (by omega)
  rw [wdN_sz] at h1
  have h2 : i % wdN A p / szN p < A := by
    rw [wdN_sz]
    exact Nat.div_lt_of_lt_mul h1
  refine ⟨h2, ?_, ?_⟩
  · unfold sqN
    rw [Nat.add_comm, Nat.add_mul_mod_self_right, Nat.mod_eq_of_lt h2]
  · unfold sqN
    rw [Nat.add_comm, Nat.add_mul_div_right _ _ (by omega), Nat.div_eq_of_lt h2, Nat.zero_add]
theorem inS_q {A B p i s : Nat} (hA : 1 ≤ A ∧ A ≤ 4) (hB : 1 ≤ B ∧ B ≤ 4) (hp : p < 3) (hi : i < wdN A p * wdN B p) : (inS A B s (atN A B p + i) ↔ sqN A p i = s) ∧ (inQ (wdN A p) p (s % A) (s / A) i ↔ sqN A p i = s) := by
  obtain ⟨e1, e2, e3, -⟩ := dec_i hA hB hp hi
  obtain ⟨h1, h2, h3⟩ := sq_q (p := p) (i := i) hA
  have h : (i % wdN A p / szN p = s % A ∧ i / wdN A p / szN p = s / A) ↔ sqN A p i = s := by
    rw [← h2, ← h3]
    constructor
    · intro z
      rw [← Nat.div_add_mod (sqN A p i) A, ← Nat.div_add_mod s A, z.1, z.2]
    · intro z
      rw [z]
      exact ⟨rfl, rfl⟩
  refine ⟨?_, h⟩
  unfold inS
  rw [e1, e2, e3]
  exact h
/-- the dots of a picture as the reference has them, at the places of S -/
def DR (A B q k : Nat) (S : Nat → Nat → Prop) (κ σ : Sg) : Prop := ∀ p i, p < 3 → i < wdN A p * wdN B p → S p i → b255 (κ (idD q p) i) (σ k (atN A B p + i))
def cPl1 (N qa A B s : Nat) (ah : Int32) (p : Nat) (κ : Sg) : Sg := if ah = 0 then κ else cFo κ (idD N p) (idD qa p) (wdN A p) (wdN B p) p (s % A) (s / A) (fvA p (κ 11 0)) (fvA p (κ 11 1)) (nI 0)
def cPl (N qa qb A B s : Nat) (ah bk : Int32) (p : Nat) (κ : Sg) : Sg := if bk = 0 then cPl1 N qa A B s ah p κ else cFo (cPl1 N qa A B s ah p κ) (idD N p) (idD qb p) (wdN A p) (wdN B p) p (s % A) (s / A) (fvA p (cPl1 N qa A B s ah p κ 12 0)) (fvA p (cPl1 N qa A B s ah p κ 12 1)) ah
def cTel (N qa qb A B s : Nat) (ah bk : Int32) (κ : Sg) : Nat → Sg
  | 0 => κ
  | n + 1 => cPl N qa qb A B s ah bk n (cTel N qa qb A B s ah bk κ n)
theorem pl1_k {N qa A B s p k j : Nat} {ah : Int32} {κ : Sg} (h : k ≠ idD N p) : cPl1 N qa A B s ah p κ k j = κ k j := by
  unfold cPl1
  split
  · rfl
  · exact sa_k h
theorem pl_k {N qa qb A B s p k j : Nat} {ah bk : Int32} {κ : Sg} (h : k ≠ idD N p) : cPl N qa qb A B s ah bk p κ k j = κ k j := by
  unfold cPl
  split
  · exact pl1_k h
  · exact (sa_k h).trans (pl1_k h)
theorem tel_k {N qa qb A B s k j : Nat} {ah bk : Int32} {κ : Sg} : ∀ n, (∀ p, p < n → k ≠ idD N p) → cTel N qa qb A B s ah bk κ n k j = κ k j
  | 0, _ => rfl
  | n + 1, h => (pl_k (h n (by omega))).trans (tel_k n (fun p hp => h p (by omega)))
theorem tel_p {N qa qb A B s p j : Nat} {ah bk : Int32} {κ : Sg} : ∀ n, p < n → n ≤ 3 → cTel N qa qb A B s ah bk κ n (idD N p) j = cPl N qa qb A B s ah bk p (cTel N qa qb A B s ah bk κ p) (idD N p) j
  | 0, h, _ => by omega
  | n + 1, h, hn => by
    by_cases e : p = n
    · subst e; rfl
    · refine (pl_k (fun z => ?_)).trans (tel_p n (by omega) (by omega))
      exact e (id_inj (by omega) (by omega) z).2
theorem fvA_r {p : Nat} {a : Int32} (ha : -1100 ≤ a.toInt ∧ a.toInt ≤ 1100) : -2000 ≤ (fvA p a).toInt ∧ (fvA p a).toInt ≤ 2000 := by
  unfold fvA
  split
  · omega
  · rw [toInt_div2]
    rcases Int.le_total 0 a.toInt with h | h
    · rw [Int.tdiv_eq_ediv_of_nonneg h]; omega
    · have : a.toInt.tdiv 2 = - ((-a.toInt).tdiv 2) := by rw [Int.neg_tdiv]; omega
      rw [this, Int.tdiv_eq_ediv_of_nonneg (by omega)]; omega
theorem fMv_e {σ : Sg} {k p w : Nat} {x y : Int32} (hp : p < 3) : fMv σ k (nI p) x y w = fBt σ k (nI p) (nI 2 * x + fvA p (σ 28 (2 * w))) (nI 2 * y + fvA p (σ 28 (2 * w + 1))) := by
  unfold fMv fvA
  by_cases h : p = 0
  · subst h
    rw [if_pos (by decide), if_pos rfl, if_pos rfl]
  · rw [if_neg (nI_nle (by omega) (by omega)), if_neg h, if_neg h]
/-- a plane's square foretold from one picture -/
theorem fv_1 {κ σ : Sg} {A B p k D D2 s i : Nat} {a d : Int32} (hD : okD σ A B) (hp : p < 3) (hi : i < wdN A p * wdN B p) (hq : sqN A p i = s) (hS : ∀ i, i < wdN A p * wdN B p → b255 (κ D2 i) (σ k (atN A B p + i)))
    (ha : -2000 ≤ a.toInt ∧ a.toInt ≤ 2000) (hd : -2000 ≤ d.toInt ∧ d.toInt ≤ 2000) : b255 (cFv κ D D2 (wdN A p) (wdN B p) p (s % A) a d (nI 0) i) (fBt σ k (nI p) (nI 2 * nI (i % wdN A p) + a) (nI 2 * nI (i / wdN A p) + d)) := by
  have hA : 1 ≤ A ∧ A ≤ 4 := ⟨hD.2.2.1, hD.2.2.2.1⟩
  have hB : 1 ≤ B ∧ B ≤ 4 := ⟨hD.2.2.2.2.1, hD.2.2.2.2.2⟩
  obtain ⟨-, -, -, h1, h2, h3⟩ := dec_i hA hB hp hi
  have h4 : szN p * (s % A) ≤ i % wdN A p := by
    have := (sq_q (p := p) (i := i) hA).2.1
    rw [hq] at this
    rw [this]
    exact Nat.mul_div_le _ _
  unfold cFv
  by_cases h : a = 0 ∧ d = 0 ∧ nI 0 = 0
  · rw [if_pos h, h.1, h.2.1, told0 hD hp h1 h2, h3]
    exact hS i hi
  · rw [if_neg h]
    unfold cMx
    rw [if_pos (show nI 0 = 0 from rfl)]
    exact told hD hp hS h1 h2 h4 ha hd
/-- and from two -/
theorem fv_2 {κ σ : Sg} {A B p k D D2 s i : Nat} {a d mx u : Int32} (hD : okD σ A B) (hp : p < 3) (hi : i < wdN A p * wdN B p) (hq : sqN A p i = s) (hS : ∀ i, i < wdN A p * wdN B p → b255 (κ D2 i) (σ k (atN A B p + i)))
    (ha : -2000 ≤ a.toInt ∧ a.toInt ≤ 2000) (hd : -2000 ≤ d.toInt ∧ d.toInt ≤ 2000) (hm : ¬ mx = 0) (h0 : b255 (κ D i) u) : b255 (cFv κ D D2 (wdN A p) (wdN B p) p (s % A) a d mx i) (h1 (u + fBt σ k (nI p) (nI 2 * nI (i % wdN A p) + a) (nI 2 * nI (i / wdN A p) + d) + nI 1)) := by
  have hA : 1 ≤ A ∧ A ≤ 4 := ⟨hD.2.2.1, hD.2.2.2.1⟩
  have hB : 1 ≤ B ∧ B ≤ 4 := ⟨hD.2.2.2.2.1, hD.2.2.2.2.2⟩
  obtain ⟨-, -, -, h1', h2, h3⟩ := dec_i hA hB hp hi
  have h4 : szN p * (s % A) ≤ i % wdN A p := by
    have := (sq_q (p := p) (i := i) hA).2.1
    rw [hq] at this
    rw [this]
    exact Nat.mul_div_le _ _
  obtain ⟨n, hn, e1, e2⟩ := told (k := k) hD hp hS h1' h2 h4 ha hd
  obtain ⟨m, hm2, e3, e4⟩ := h0
  unfold cFv
  rw [if_neg (fun z => hm z.2.2)]
  unfold cMx h1
  rw [if_neg hm, e1, e2, e3, e4]
  simp only [nI_add]
  rw [sh1N (by omega)]
  exact ⟨_, by omega, rfl, rfl⟩
theorem fo_in {κ : Sg} {D D2 w h p cl rw i : Nat} {a d mx : Int32} (hq : inQ w p cl rw i) : cFo κ D D2 w h p cl rw a d mx D i = cFv κ D D2 w h p cl a d mx i := by
  unfold cFo
  rw [sa_at, if_pos hq]
theorem fo_out {κ : Sg} {D D2 w h p cl rw i : Nat} {a d mx : Int32} (hq : ¬ inQ w p cl rw i) : cFo κ D D2 w h p cl rw a d mx D i = κ D i := by
  unfold cFo
  rw [sa_at, if_neg hq]
theorem pl_out {N qa qb A B s p i : Nat} {ah bk : Int32} {κ : Sg} (hq : ¬ inQ (wdN A p) p (s % A) (s / A) i) : cPl N qa qb A B s ah bk p κ (idD N p) i = κ (idD N p) i := by
  have h1 : cPl1 N qa A B s ah p κ (idD N p) i = κ (idD N p) i := by
    unfold cPl1
    split
    · rfl
    · exact fo_out hq
  unfold cPl
  split
  · exact h1
  · exact (fo_out hq).trans h1
/-- what a square is foretold from -/
def SR (A B qa qb : Nat) (ah bk : Int32) (κ σ : Sg) : Prop := (¬ ah = 0 → DR A B qa (fwK σ) (fun _ _ => True) κ σ ∧ κ 11 0 = σ 28 0 ∧ κ 11 1 = σ 28 1) ∧ (¬ bk = 0 → DR A B qb 10 (fun _ _ => True) κ σ ∧ κ 12 0 = σ 28 2 ∧ κ 12 1 = σ 28 3) ∧ ∀ j, j < 4 → -1100 ≤ (σ 28 j).toInt ∧ (σ 28 j).toInt ≤ 1100
theorem pl_in {N qa qb A B s p i : Nat} {ah bk : Int32} {κ σ : Sg} (hD : okD σ A B) (hp : p < 3) (hi : i < wdN A p * wdN B p) (hq : sqN A p i = s) (hN : N ≠ qa ∧ N ≠ qb) (hS : SR A B qa qb ah bk κ σ) (h30 : σ 30 0 = ah) (h31 : σ 31 0 = bk) (hab : ah = 0 → ¬ bk = 0) : b255 (cPl N qa qb A B s ah bk p κ (idD N p) i) (fFD σ (nI p) (nI (i % wdN A p)) (nI (i / wdN A p))) := by
  have hA : 1 ≤ A ∧ A ≤ 4 := ⟨hD.2.2.1, hD.2.2.2.1⟩
  have hB : 1 ≤ B ∧ B ≤ 4 := ⟨hD.2.2.2.2.1, hD.2.2.2.2.2⟩
  have hin := (inS_q (s := s) hA hB hp hi).2.mpr hq
  obtain ⟨hF, hK, hr⟩ := hS
  have r0 := fvA_r (p := p) (hr 0 (by decide))
  have r1 := fvA_r (p := p) (hr 1 (by decide))
  have r2 := fvA_r (p := p) (hr 2 (by decide))
  have r3 := fvA_r (p := p) (hr 3 (by decide))
  unfold fFD cPl
  rw [h30, h31]
  by_cases ea : ah = 0
  · have eb := hab ea
    have e1 : cPl1 N qa A B s ah p κ = κ := if_pos ea
    rw [if_pos ea, if_neg eb, e1, ea]
    obtain ⟨k1, k2, k3⟩ := hK eb
    rw [fo_in hin, k2, k3, fMv_e hp]
    exact fv_1 hD hp hi hq (fun i hi => k1 p i hp hi trivial) r2 r3
  · obtain ⟨k1, k2, k3⟩ := hF ea
    have v1 : b255 (cPl1 N qa A B s ah p κ (idD N p) i) (fMv σ (fwK σ) (nI p) (nI (i % wdN A p)) (nI (i / wdN A p)) 0) := by
      unfold cPl1
      rw [if_neg ea, fo_in hin, k2, k3, fMv_e hp]
      exact fv_1 hD hp hi hq (fun i hi => k1 p i hp hi trivial) r0 r1
    rw [if_neg ea]
    by_cases eb : bk = 0
    · rw [if_pos eb, if_pos eb]
      exact v1
    · rw [if_neg eb, if_neg eb]
      obtain ⟨m1, m2, m3⟩ := hK eb
      have hne : 12 ≠ idD N p := by unfold idD; omega
      rw [fo_in hin, pl1_k hne, pl1_k hne, m2, m3, fMv_e (w := 1) hp]
      refine fv_2 hD hp hi hq (fun i hi => ?_) r2 r3 ea v1
      rw [pl1_k (id_DD hp hp hN.2.symm)]
      exact m1 p i hp hi trivial
theorem tel_DR {N qa qb A B s : Nat} {S : Nat → Nat → Prop} {ah bk : Int32} {κ σ : Sg} (hD : okD σ A B) (hN : N ≠ qa ∧ N ≠ qb) (hS : SR A B qa qb ah bk κ σ) (h30 : σ 30 0 = ah) (h31 : σ 31 0 = bk) (hab : ah = 0 → ¬ bk = 0) (h : DR A B N 9 S κ σ) : DR A B N 9 (fun p i => S p i ∨ sqN A p i = s) (cTel N qa qb A B s ah bk κ 3) (fT σ A B s) := by
  intro p i hp hi hs
  have hA : 1 ≤ A ∧ A ≤ 4 := ⟨hD.2.2.1, hD.2.2.2.1⟩
  have hB : 1 ≤ B ∧ B ≤ 4 := ⟨hD.2.2.2.2.1, hD.2.2.2.2.2⟩
  obtain ⟨d1, d2, d3, -⟩ := dec_i hA hB hp hi
  have hq := inS_q (s := s) hA hB hp hi
  rw [tel_p 3 hp (by omega)]
  unfold fT
  rw [sa_at]
  by_cases e : sqN A p i = s
  · rw [if_pos (hq.1.mpr e)]
    unfold tdN
    rw [d1, d2, d3]
    refine pl_in hD hp hi e hN ⟨fun z => ?_, fun z => ?_, hS.2.2⟩ h30 h31 hab
    · obtain ⟨k1, k2, k3⟩ := hS.1 z
      refine ⟨fun p2 i2 hp2 hi2 _ => ?_, ?_, ?_⟩
      · rw [tel_k p (fun p3 h3 => id_DD (by omega) (by omega) hN.1.symm)]
        exact k1 p2 i2 hp2 hi2 trivial
      · rw [tel_k p (fun p3 h3 => by unfold idD; omega)]; exact k2
      · rw [tel_k p (fun p3 h3 => by unfold idD; omega)]; exact k3
    · obtain ⟨k1, k2, k3⟩ := hS.2.1 z
      refine ⟨fun p2 i2 hp2 hi2 _ => ?_, ?_, ?_⟩
      · rw [tel_k p (fun p3 h3 => id_DD (by omega) (by omega) hN.2.symm)]
        exact k1 p2 i2 hp2 hi2 trivial
      · rw [tel_k p (fun p3 h3 => by unfold idD; omega)]; exact k2
      · rw [tel_k p (fun p3 h3 => by unfold idD; omega)]; exact k3
  · rw [if_neg (fun z => e (hq.1.mp z)), pl_out (fun z => e (hq.2.mp z)), tel_k p (fun p3 h3 z => by
      have := (id_inj hp (by omega) z).2
      omega)]
    rcases hs with hs | hs
    · exact h p i hp hi hs
    · exact absurd hs e
/-! drawing a block -/
theorem hel_b (v : Int32) : b255 (hel v (nI 0) (nI 255)) (hel v (nI 0) (nI 255)) := by
  unfold hel
  by_cases h : nI 0 ≤ v
  · rw [if_pos h]
    have h' : ¬ v < 0 := Int32.not_lt.mpr h
    by_cases h2 : v ≤ nI 255
    · rw [if_pos h2]
      obtain ⟨j, hj, rfl⟩ := nI_of2 (M := nI 255) (n := 255) (by decide) h' h2
      exact ⟨j, hj, rfl, rfl⟩
    · rw [if_neg h2]
      exact ⟨255, by omega, rfl, rfl⟩
  · rw [if_neg h]
    exact ⟨0, by omega, rfl, rfl⟩
theorem draw_DR {N A B p x0 y0 : Nat} {S : Nat → Nat → Prop} {inn : Int32} {κ σ : Sg} (hA : 1 ≤ A ∧ A ≤ 4) (hB : 1 ≤ B ∧ B ≤ 4) (hp : p < 3) (hI : σ 32 0 = inn) (hR : BR κ σ) (hin : inn = 0 → ∀ i, i < wdN A p * wdN B p → inW (wdN A p) x0 y0 i → S p i) (h : DR A B N 9 S κ σ) : DR A B N 9 (fun p' i => S p' i ∨ (p' = p ∧ inW (wdN A p) x0 y0 i)) (cDraw (cMk κ) (idD N p) (wdN A p) x0 y0 inn) (fSm σ A B p x0 y0) := by
  intro p' i hp' hi hs
  obtain ⟨d1, d2, d3, d4, d5, d6⟩ := dec_i hA hB hp' hi
  unfold cDraw fSm
  rw [sa_at]
  by_cases e : p' = p
  · subst e
    rw [sa_at]
    by_cases ei : inW (wdN A p') x0 y0 i
    · rw [if_pos ei, if_pos (show inR A B p' x0 y0 (atN A B p' + i) from ⟨d1, by rw [d2]; exact ei.1, by rw [d3]; exact ei.2⟩)]
      unfold cDv picW
      have e9 : cMk κ 9 (8 * (i / wdN A p' - y0) + (i % wdN A p' - x0)) = sumV σ (i % wdN A p' - x0) (i / wdN A p' - y0) >>> (nI 15 &&& 31) := by
        rw [mk_s hR (by omega), show (8 * (i / wdN A p' - y0) + (i % wdN A p' - x0)) % 8 = i % wdN A p' - x0 by omega, show (8 * (i / wdN A p' - y0) + (i % wdN A p' - x0)) / 8 = i / wdN A p' - y0 by omega]
      rw [e9, d2, d3, hI, mk_k (by unfold idD; omega) (by unfold idD; omega) (by unfold idD; omega)]
      by_cases e0 : inn = 0
      · obtain ⟨n, -, f1, f2⟩ := h p' i hp' hi (hin e0 i hi ei)
        rw [if_pos e0, if_pos e0, f1, f2]
        exact hel_b _
      · rw [if_neg e0, if_neg e0]
        exact hel_b _
    · rw [if_neg ei, if_neg (fun z => ei ⟨by rw [← d2]; exact z.2.1, by rw [← d3]; exact z.2.2⟩), mk_k (by unfold idD; omega) (by unfold idD; omega) (by unfold idD; omega)]
      rcases hs with hs | hs
      · exact h p' i hp' hi hs
      · exact absurd hs.2 ei
  · rw [sa_k (fun z => e (id_inj hp' hp z).2), if_neg (fun z => e (d1.symm.trans z.1)), mk_k (by unfold idD; omega) (by unfold idD; omega) (by unfold idD; omega)]
    rcases hs with hs | hs
    · exact h p' i hp' hi hs
    · exact absurd hs.1 e
/-! ===== blocks, vectors, passing over: the class's limits are the reference's ===== -/
theorem sgn_r {n : Int32} {b : Nat} (h : n = nI b) (hb : b ≤ 2097150) : -1048575 ≤ (sgnU n).toInt ∧ (sgnU n).toInt ≤ 1048575 := by
  subst h
  unfold sgnU
  rw [pk_rem (by omega) (by decide) (by decide)]
  by_cases e : b % 2 = 1
  · rw [e, if_pos rfl, nI_add, pk_div (by omega) (by decide) (by decide), nI_toInt (by omega)]
    omega
  · rw [if_neg (fun z => e ((nI_eq (by omega) (by decide)).mp z)), pk_div (by omega) (by decide) (by decide), Int32.toInt_neg, nI_toInt (by omega), Int.bmod_def]
    omega
theorem u_sgn {σ : Sg} (hR : okR σ) (hw : σ 6 0 = -1) (h : ¬ 0 ≤ (fU 22 0 σ).2 6 0) : -1048575 ≤ (sgnU (fU 22 0 σ).1).toInt ∧ (sgnU (fU 22 0 σ).1).toInt ≤ 1048575 := by
  obtain ⟨b, h1, h2⟩ := u_max 22 0 σ hR (by rw [hw]; decide) rfl (by decide) h
  exact sgn_r h1 h2
theorem i_lt {x y : Int32} : x < y ↔ x.toInt < y.toInt := Int32.lt_iff_toInt_lt
theorem i_le {x y : Int32} : x ≤ y ↔ x.toInt ≤ y.toInt := Int32.le_iff_toInt_le
theorem dc_eq {s : Int32} {d : Nat} (hd : d ≤ 255) (hs : -1048575 ≤ s.toInt ∧ s.toInt ≤ 1048575) : (s < -(nI d) ↔ nI d + s < 0) ∧ (s ≤ nI 255 - nI d ↔ nI d + s ≤ nI 255) := by
  have e1 : (-(nI d)).toInt = -d := by
    rw [Int32.toInt_neg, nI_toInt (by omega), Int.bmod_def]
    omega
  have e2 : (nI d + s).toInt = d + s.toInt := by
    rw [Int32.toInt_add, nI_toInt (by omega), Int.bmod_def]
    omega
  have e3 : (nI 255 - nI d).toInt = 255 - d := by
    rw [pk_sub hd, nI_toInt (by omega)]
    omega
  rw [i_lt, i_lt, i_le, i_le, e1, e2, e3, nI_toInt (by decide)]
  show (s.toInt < -(d:Int) ↔ (d:Int) + s.toInt < 0) ∧ _
  omega
def TA (κ σ : Sg) : Prop := ∀ j, j < 8 → κ 4 j = σ (20 + j) 0
theorem TA.ck {S : List Nat} {κ κ' σ : Sg} (h : TA κ σ) (e : kp S κ κ') (h4 : 4 ∉ S) : TA κ' σ := fun j hj => (e 4 h4 j).trans (h j hj)
theorem TA.cs {S : List Nat} {κ σ σ' : Sg} (h : TA κ σ) (e : kp S σ σ') (h4 : ∀ j, j < 8 → 20 + j ∉ S) : TA κ σ' := fun j hj => (h j hj).trans (e _ (h4 j hj) 0).symm
theorem TRel.ck {S : List Nat} {κ κ' σ : Sg} (h : TRel κ σ) (e : kp S κ κ') (h1 : 1 ∉ S) (h2 : 2 ∉ S) : TRel κ' σ := by
  obtain ⟨a, b, c, d, f, f2⟩ := h
  refine ⟨a, (e 1 h1 2).trans b, (e 1 h1 1).trans c, d, fun x j h3 h4 h5 => ?_, (e 1 h1 3).trans f2⟩
  rw [f x j h3 h4 h5]
  unfold bitv
  rw [e 2 h2]
theorem TRel.cs {S : List Nat} {κ σ σ' : Sg} (h : TRel κ σ) (e : kp S σ σ') (h3 : 3 ∉ S) (h4 : 4 ∉ S) (h5 : 5 ∉ S) (h6 : 6 ∉ S) : TRel κ σ' := by
  obtain ⟨a, b, c, d, f, f2⟩ := h
  refine ⟨a.kp e ⟨h3, h4, h5⟩, b.trans (e 4 h4 0).symm, c.trans (e 5 h5 0).symm, (e 6 h6 0).trans d, fun x j h7 h8 h9 => ?_, f2⟩
  rw [e 3 h3 j]
  exact f x j ((e 5 h5 0).symm.trans h7) h8 h9
theorem zz_inj : ∀ a, a < 64 → ∀ b, b < 64 → zzT a = zzT b → a = b := by decide +kernel
def BW (w : Nat) (κ σ : Sg) : Prop := BR κ σ ∧ ∀ t, w ≤ t → t < 64 → σ 38 (zzT t) = 0
theorem BW.clr {κ' σ : Sg} (h8 : ∀ j, j < 64 → κ' 8 j = nI 0) (h2 : κ' 7 2 = nI 0) (h3 : κ' 7 3 = nI 0) : BW 0 κ' (fClr σ 64) := by
  have e : ∀ j, j < 64 → fClr σ 64 38 j = 0 := fun j hj => by
    unfold fClr
    rw [sa_at, if_pos hj]
    rfl
  refine ⟨⟨fun j hj => (h8 j hj).trans (e j hj).symm, ?_, fun v u hv hu _ => e _ (by omega)⟩, fun t _ ht => e _ (zz_lt t ht)⟩
  rw [h2]
  unfold fAll
  exact (sg_z 64 (fun i hi => e i hi)).symm
theorem BW.put {κ σ : Sg} {w v : Nat} {f : Int32} (h : BW w κ σ) (hw : w ≤ v) (hv : v < 64) : BW (v + 1) (cPut (zzT v) f κ) (su σ 38 (zzT v) f) := by
  obtain ⟨⟨h1, h2, h3⟩, h4⟩ := h
  have hz := zz_lt v hv
  have h0 := h4 v hw hv
  refine ⟨⟨fun j hj => ?_, ?_, fun v' u hv' hu hb => ?_⟩, fun t ht ht2 => ?_⟩
  · unfold cPut
    rw [su_k (by decide), su_k (by decide)]
    by_cases e : j = zzT v
    · rw [e, su_at, su_at]
    · rw [su_j e, su_j e]
      exact h1 j hj
  · unfold cPut
    rw [show su (su (su κ 8 (zzT v) f) 7 2 (κ 7 2 + f)) 7 3 (κ 7 3 ||| nI 1 <<< (nI (zzT v / 8) &&& 31)) 7 2 = κ 7 2 + f from (su_j (by decide)).trans (su_at _ _ _ _), h2]
    unfold fAll
    rw [sg_u (f := fun k => σ 38 k) (g := fun k => su σ 38 (zzT v) f 38 k) (a := zzT v) (v := f) h0 (su_at _ _ _ _) (fun i hi => su_j hi) 64, if_pos hz]
  · have e : cPut (zzT v) f κ 7 3 = κ 7 3 ||| nI 1 <<< (nI (zzT v / 8) &&& 31) := su_at _ _ _ _
    rw [e, or_bit (by omega) (by omega)] at hb
    have hne : v' ≠ zzT v / 8 := fun z => by rw [z] at hb; simp at hb
    have hb2 : (κ 7 3).toBitVec.getLsbD v' = false := by
      cases hh : (κ 7 3).toBitVec.getLsbD v'
      · rfl
      · rw [hh] at hb; simp at hb
    rw [su_j (by omega)]
    exact h3 v' u hv' hu hb2
  · rw [su_j (fun z => by have := zz_inj t ht2 v hv z; omega)]
    exact h4 t (by omega) ht2
theorem BR.ck {S : List Nat} {κ κ' σ : Sg} (h : BR κ σ) (e : kp S κ κ') (h7 : 7 ∉ S) (h8 : 8 ∉ S) : BR κ' σ := ⟨fun j hj => (e 8 h8 j).trans (h.1 j hj), (e 7 h7 2).trans h.2.1, fun v u hv hu hb => h.2.2 v u hv hu (by rw [← e 7 h7 3]; exact hb)⟩
theorem BR.cs {S : List Nat} {κ σ σ' : Sg} (h : BR κ σ) (e : kp S σ σ') (h8 : 38 ∉ S) : BR κ σ' := ⟨fun j hj => (h.1 j hj).trans (e 38 h8 j).symm, h.2.1.trans (by unfold fAll; exact sg_c 64 (fun i _ => (e 38 h8 i).symm)), fun v u hv hu hb => (e 38 h8 _).trans (h.2.2 v u hv hu hb)⟩
theorem BW.ck {S : List Nat} {w : Nat} {κ κ' σ : Sg} (h : BW w κ σ) (e : kp S κ κ') (h7 : 7 ∉ S) (h8 : 8 ∉ S) : BW w κ' σ := ⟨h.1.ck e h7 h8, h.2⟩
theorem BW.cs {S : List Nat} {w : Nat} {κ σ σ' : Sg} (h : BW w κ σ) (e : kp S σ σ') (h8 : 38 ∉ S) : BW w κ σ' := ⟨h.1.cs e h8, fun t h1 h2 => (e 38 h8 _).trans (h.2 t h1 h2)⟩
/-! a vector's half -/
def okV (R : Nat) : Prop := 32 ≤ R ∧ R ≤ 2048 ∧ R % 2 = 0
theorem hlf {R : Nat} (h : okV R) : -(nI R) / nI 2 = -(nI (R / 2)) ∧ nI R / nI 2 = nI (R / 2) ∧ (nI (R / 2)).toInt = R / 2 ∧ (-(nI (R / 2))).toInt = -(R / 2) ∧ (nI (R / 2) - nI 1).toInt = R / 2 - 1 ∧ (nI R).toInt = R := by
  obtain ⟨h1, h2, h3⟩ := h
  have e0 : (nI (R / 2)).toInt = R / 2 := by rw [nI_toInt (by omega)]; omega
  have e1 : (-(nI (R / 2))).toInt = -(R / 2) := by
    rw [Int32.toInt_neg, e0, Int.bmod_def]
    omega
  refine ⟨?_, pk_div (by omega) (by decide) (by decide), e0, e1, ?_, nI_toInt (by omega)⟩
  · apply Int32.toInt_inj.mp
    rw [toInt_div2, e1, Int32.toInt_neg, nI_toInt (by omega)]
    have : ((-(R:Int)).bmod (2 ^ 32)) = -(R : Int) := by rw [Int.bmod_def]; omega
    rw [show Int.bmod (-(R:Int)) (2 ^ 32) = -(R:Int) from this, Int.neg_tdiv, Int.tdiv_eq_ediv_of_nonneg (by omega)]
  · rw [pk_sub (by omega), nI_toInt (by omega)]
    omega
theorem ss_v {R : Nat} {s : Int32} (h : okV R) : (s < -(nI R) / nI 2 ↔ s < -(nI R / nI 2)) ∧ (s < nI R / nI 2 ↔ s ≤ nI R / nI 2 - nI 1) := by
  obtain ⟨e1, e2, e3, e4, e5, e6⟩ := hlf h
  rw [e1, e2]
  refine ⟨Iff.rfl, ?_⟩
  rw [i_lt, i_le, e3, e5]
  omega
theorem vwr_r {R : Nat} {a s : Int32} (h : okV R) (ha : -(R / 2 : Int) ≤ a.toInt ∧ a.toInt < R / 2) (hs : ¬ s < -(nI R) / nI 2) (hs2 : s < nI R / nI 2) : -(R / 2 : Int) ≤ (vwr (nI R) (a + s)).toInt ∧ (vwr (nI R) (a + s)).toInt < R / 2 := by
  obtain ⟨e1, e2, e3, e4, e5, e6⟩ := hlf h
  obtain ⟨h1, h2, h3⟩ := h
  rw [e1] at hs
  rw [e2] at hs2
  rw [i_lt, e4] at hs
  rw [i_lt, e3] at hs2
  have e : (a + s).toInt = a.toInt + s.toInt := by rw [Int32.toInt_add, Int.bmod_def]; omega
  unfold vwr
  rw [e1, e2]
  by_cases h4 : -(nI (R / 2)) ≤ a + s
  · rw [if_pos h4]
    rw [i_le, e4, e] at h4
    by_cases h5 : a + s < nI (R / 2)
    · rw [if_pos h5, e]
      rw [i_lt, e3, e] at h5
      omega
    · rw [if_neg h5, Int32.toInt_sub, e, e6, Int.bmod_def]
      rw [i_lt, e3, e] at h5
      omega
  · rw [if_neg h4, Int32.toInt_add, e, e6, Int.bmod_def]
    rw [i_le, e4, e] at h4
    omega
/-! passing over -/
def mostN (A B s : Nat) (srt : Bool) (inn : Prop) [Decidable inn] : Nat := if srt then A * B - s else if s % A = 0 ∨ inn then 0 else A - s % A
theorem ps_most {A B s n : Nat} {inn : Int32} (hA : 1 ≤ A) (hs : s < A * B) : (n ≤ A * B - s ∧ ¬ psB A s inn n s) ↔ n ≤ mostN A B s false (¬ inn = 0) := by
  unfold mostN
  rw [if_neg (by decide), psB_iff]
  have hsd := Nat.div_add_mod s A
  have hml := Nat.mod_lt s (show A > 0 by omega)
  by_cases h : s % A = 0 ∨ ¬ inn = 0
  · rw [if_pos h]
    constructor
    · intro ⟨_, h2⟩
      refine Nat.le_of_not_lt (fun h3 => h2 ⟨0, h3, ?_⟩)
      rcases h with h | h
      · exact Or.inl h
      · exact Or.inr ⟨rfl, h⟩
    · intro h1
      exact ⟨by omega, fun ⟨i, hi, _⟩ => by omega⟩
  · rw [if_neg h]
    have h1 : ¬ s % A = 0 := fun z => h (Or.inl z)
    have h2 : ¬ ¬ inn = 0 := fun z => h (Or.inr z)
    have hle : A - s % A ≤ A * B - s := by
      have h5 : s / A < B := Nat.div_lt_of_lt_mul hs
      have h6 : A * (s / A + 1) ≤ A * B := Nat.mul_le_mul_left A h5
      rw [Nat.mul_add] at h6
      omega
    constructor
    · intro ⟨h3, h4⟩
      refine Nat.le_of_not_lt (fun h5 => h4 ⟨A - s % A, h5, Or.inl ?_⟩)
      have e : s + (A - s % A) = A * (s / A + 1) := by rw [Nat.mul_add]; omega
      rw [e]
      exact Nat.mul_mod_right _ _
    · intro h3
      refine ⟨by omega, fun ⟨i, hi, h4⟩ => ?_⟩
      rcases h4 with h4 | h4
      · have e : (s + i) % A = s % A + i := by
          have : s + i = (s % A + i) + A * (s / A) := by omega
          rw [this, Nat.add_mul_mod_self_left, Nat.mod_eq_of_lt (by omega)]
        omega
      · exact h2 h4.2
