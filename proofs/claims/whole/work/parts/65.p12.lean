/-! ===== writing on the tape ===== -/
abbrev tbt (x : Int32) (i : Nat) : Bool := x.toBitVec.getLsbD i
theorem sx_bit {x : Int32} {i : Nat} (h : i < 8) : tbt x.toInt8.toInt32 i = tbt x i := by
  show ((x.toBitVec.signExtend 8).signExtend 32).getLsbD i = x.toBitVec.getLsbD i
  rw [BitVec.getLsbD_signExtend, BitVec.getLsbD_signExtend]
  simp [h, show i < 32 by omega]
theorem sx_ext {x y : Int32} (h : ∀ i, i < 8 → tbt x i = tbt y i) : x.toInt8.toInt32 = y.toInt8.toInt32 := by
  have e : x.toInt8 = y.toInt8 := by
    apply Int8.toBitVec_inj.mp
    show x.toBitVec.signExtend 8 = y.toBitVec.signExtend 8
    apply BitVec.eq_of_getLsbD_eq
    intro i hi
    rw [BitVec.getLsbD_signExtend, BitVec.getLsbD_signExtend]
    simp [hi, show i < 32 by omega]
    exact h i hi
  rw [e]
theorem shr_bit {x : Int32} {n i : Nat} (hn : n < 32) (h : n + i < 32) : tbt (x >>> (nI n &&& 31)) i = tbt x (n + i) := by
  have e1 : (x >>> (nI n &&& 31)).toBitVec = x.toBitVec.sshiftRight n := by
    show x.toBitVec.sshiftRight ((nI n &&& 31).toBitVec.smod 32).toNat = _
    rw [sm32 n hn]
  unfold tbt
  rw [e1, BitVec.getLsbD_sshiftRight]
  simp [h, show ¬ (32 ≤ i) by omega]
theorem shl_bit {b : Bool} {n i : Nat} (hn : n < 32) (hi : i < 32) : tbt ((if b then nI 1 else nI 0) <<< (nI n &&& 31)) i = (decide (i = n) && b) := by
  have e1 : ((if b then nI 1 else nI 0) <<< (nI n &&& 31)).toBitVec = (if b then nI 1 else nI 0 : Int32).toBitVec <<< n := by
    show (if b then nI 1 else nI 0 : Int32).toBitVec <<< ((nI n &&& 31).toBitVec.smod 32).toNat = _
    rw [sm32 n hn]
  unfold tbt
  rw [e1, BitVec.getLsbD_shiftLeft]
  cases b
  · have : (if false = true then nI 1 else nI 0 : Int32).toBitVec = 0#32 := rfl
    rw [this]
    simp
  · have : (if true = true then nI 1 else nI 0 : Int32).toBitVec = 1#32 := rfl
    rw [this, BitVec.getLsbD_one]
    by_cases h : i = n
    · subst h; simp [hi]
    · simp [h, hi]; omega
theorem or_bits (x y : Int32) (i : Nat) : tbt (x ||| y) i = (tbt x i || tbt y i) := by
  show (x.toBitVec ||| y.toBitVec).getLsbD i = _
  rw [BitVec.getLsbD_or]
def kBy (v : Int32) (n tb : Nat) (κ : Sg) : Nat → Sg
  | 0 => κ
  | k + 1 => cB1 (v >>> (nI (n + 7 - k) &&& 31) &&& nI 1) (tb + k) (kBy v n tb κ k)
theorem kBy_e {v : Int32} {n tb : Nat} {κ : Sg} : ∀ k, k ≤ 8 → cBs v (n + 8) tb κ = cBs v (n + 8 - k) (tb + k) (kBy v n tb κ k)
  | 0, _ => rfl
  | k + 1, hk => by
    rw [kBy_e k (by omega)]
    obtain ⟨m, hm⟩ : ∃ m, n + 8 - k = m + 1 := ⟨n + 7 - k, by omega⟩
    have e2 : n + 8 - (k + 1) = m := by omega
    have e3 : n + 7 - k = m := by omega
    have e4 : kBy v n tb κ (k + 1) = cB1 (v >>> (nI m &&& 31) &&& nI 1) (tb + k) (kBy v n tb κ k) := by rw [← e3]; rfl
    rw [hm, e2, e4]
    rfl
theorem kBy_f {v : Int32} {n m : Nat} {κ : Sg} : ∀ k, k ≤ 8 → (∀ j, j ≠ m → kBy v n (8 * m) κ k 2 j = κ 2 j) ∧ (∀ j, j ≠ 1 → kBy v n (8 * m) κ k 1 j = κ 1 j) ∧ (∀ i, i ≠ 1 → i ≠ 2 → ∀ j, kBy v n (8 * m) κ k i j = κ i j)
  | 0, _ => ⟨fun _ _ => rfl, fun _ _ => rfl, fun _ _ _ _ => rfl⟩
  | k + 1, hk => by
    obtain ⟨a, b, c⟩ := kBy_f (v := v) (n := n) (m := m) (κ := κ) k (by omega)
    have e : (8 * m + k) / 8 = m := by omega
    unfold kBy cB1
    rw [e]
    refine ⟨fun j hj => ?_, fun j hj => ?_, fun i h1 h2 j => ?_⟩
    · rw [su_k (by decide), su_j hj]; exact a j hj
    · rw [su_j hj, su_k (by decide)]; exact b j hj
    · rw [su_k h1, su_k h2]; exact c i h1 h2 j
theorem kBy_b {v : Int32} {n m : Nat} {κ : Sg} (hn : n ≤ 24) : ∀ k, k ≤ 8 → 1 ≤ k → ∃ y, kBy v n (8 * m) κ k 2 m = y.toInt8.toInt32 ∧ ∀ i, i < 8 → tbt y i = (decide (8 - k ≤ i) && tbt v (n + i))
  | 0, _, h => by omega
  | k + 1, hk, _ => by
    have e : (8 * m + k) / 8 = m := by omega
    have e2 : (8 * m + k) % 8 = k := by omega
    unfold kBy cB1
    rw [e, e2]
    refine ⟨_, by rw [su_k (by decide), su_at], fun i hi => ?_⟩
    rw [or_bits, tbN (show n + 7 - k < 32 by omega), shl_bit (by omega) (by omega)]
    have hv : v.toBitVec.getLsbD (n + 7 - k) = tbt v (n + 7 - k) := rfl
    by_cases h0 : k = 0
    · subst h0
      rw [if_pos rfl]
      have z : tbt (nI 0) i = false := by
        show (0#32).getLsbD i = false
        simp
      rw [z, Bool.false_or]
      by_cases hi7 : i = 7
      · subst hi7
        simp
      · simp [hi7]
        omega
    · rw [if_neg h0]
      obtain ⟨y, y1, y2⟩ := kBy_b (v := v) (n := n) (m := m) (κ := κ) hn k (by omega) (by omega)
      rw [y1, sx_bit hi, y2 i hi]
      by_cases h7 : i = 7 - k
      · subst h7
        have e5 : n + 7 - k = n + (7 - k) := by omega
        rw [e5]
        have d1 : decide (8 - k ≤ 7 - k) = false := decide_eq_false (by omega)
        have d2 : decide (8 - (k + 1) ≤ 7 - k) = true := decide_eq_true (by omega)
        rw [d1, d2]
        simp
      · have d0 : decide (i = 7 - k) = false := by simp [h7]
        rw [d0]
        have d1 : decide (8 - k ≤ i) = decide (8 - (k + 1) ≤ i) := by
          rw [decide_eq_decide]
          omega
        rw [d1]
        simp
theorem by8 {v : Int32} {n m : Nat} {κ : Sg} (hn : n ≤ 24) : ∃ κ', cBs v (n + 8) (8 * m) κ = cBs v n (8 * (m + 1)) κ' ∧ (∀ j, κ' 2 j = if j = m then (v >>> (nI n &&& 31)).toInt8.toInt32 else κ 2 j) ∧ (∀ j, j ≠ 1 → κ' 1 j = κ 1 j) ∧ (∀ i, i ≠ 1 → i ≠ 2 → ∀ j, κ' i j = κ i j) := by
  obtain ⟨a, b, c⟩ := kBy_f (v := v) (n := n) (m := m) (κ := κ) 8 (by decide)
  obtain ⟨y, y1, y2⟩ := kBy_b (v := v) (n := n) (m := m) (κ := κ) hn 8 (by decide) (by decide)
  refine ⟨kBy v n (8 * m) κ 8, ?_, fun j => ?_, b, c⟩
  · rw [kBy_e 8 (by decide), show n + 8 - 8 = n by omega, show 8 * m + 8 = 8 * (m + 1) by omega]
  · by_cases h : j = m
    · subst h
      rw [if_pos rfl, y1]
      refine sx_ext (fun i hi => ?_)
      rw [y2 i hi, shr_bit (by omega) (by omega)]
      simp
    · rw [if_neg h]
      exact a j h
theorem by32 {v : Int32} {m : Nat} {κ : Sg} : (∀ j, cBs v 32 (8 * m) κ 2 j = if m ≤ j ∧ j < m + 4 then (v >>> (nI (24 - 8 * (j - m)) &&& 31)).toInt8.toInt32 else κ 2 j) ∧ (∀ j, j ≠ 1 → cBs v 32 (8 * m) κ 1 j = κ 1 j) ∧ (∀ i, i ≠ 1 → i ≠ 2 → ∀ j, cBs v 32 (8 * m) κ i j = κ i j) := by
  obtain ⟨κ1, e1, a1, b1, c1⟩ := by8 (v := v) (n := 24) (m := m) (κ := κ) (by decide)
  obtain ⟨κ2, e2, a2, b2, c2⟩ := by8 (v := v) (n := 16) (m := m + 1) (κ := κ1) (by decide)
  obtain ⟨κ3, e3, a3, b3, c3⟩ := by8 (v := v) (n := 8) (m := m + 1 + 1) (κ := κ2) (by decide)
  obtain ⟨κ4, e4, a4, b4, c4⟩ := by8 (v := v) (n := 0) (m := m + 1 + 1 + 1) (κ := κ3) (by decide)
  have e : cBs v 32 (8 * m) κ = κ4 := by
    rw [show (32 : Nat) = 24 + 8 from rfl, e1, show (24 : Nat) = 16 + 8 from rfl, e2, show (16 : Nat) = 8 + 8 from rfl, e3, show (8 : Nat) + 0 = 0 + 8 from rfl] at *
    exact e4
  rw [e]
  refine ⟨fun j => ?_, fun j hj => by rw [b4 j hj, b3 j hj, b2 j hj, b1 j hj], fun i h1 h2 j => by rw [c4 i h1 h2, c3 i h1 h2, c2 i h1 h2, c1 i h1 h2]⟩
  rw [a4, a3, a2, a1]
  by_cases h3 : j = m + 1 + 1 + 1
  · rw [if_pos h3, if_pos (by omega), show 24 - 8 * (j - m) = 0 by omega]
  · rw [if_neg h3]
    by_cases h2 : j = m + 1 + 1
    · rw [if_pos h2, if_pos (by omega), show 24 - 8 * (j - m) = 8 by omega]
    · rw [if_neg h2]
      by_cases h1 : j = m + 1
      · rw [if_pos h1, if_pos (by omega), show 24 - 8 * (j - m) = 16 by omega]
      · rw [if_neg h1]
        by_cases h0 : j = m
        · rw [if_pos h0, if_pos (by omega), show 24 - 8 * (j - m) = 24 by omega]
        · rw [if_neg h0, if_neg (by omega)]
theorem RL.tp {g : Gh} {κ κ' σ σ' : Sg} {tb : Nat} (h : RL g κ σ) (k1 : ∀ j, j ≠ 1 → κ' 1 j = κ 1 j) (k2 : ∀ i, i ≠ 1 → i ≠ 2 → ∀ j, κ' i j = κ i j) (e : kp [0, 1, 2, 42] σ σ') (t1 : κ' 1 1 = nI tb) (t2 : σ' 2 0 = nI tb) (t3 : tb ≤ 32000) (t4 : ∀ i, i < (tb + 7) / 8 → κ' 2 i = σ' 1 i) : RL g κ' σ' := by
  obtain ⟨⟨hG, hC, A0, B0, hAB, h2, h3⟩, -, h5, h6, h7, h8, sh, s1, s2, s3⟩ := h
  refine ⟨⟨hG, fun q p hq hp => ⟨(hC q p hq hp).1, (k2 _ (by unfold idL; omega) (by unfold idL; omega) 0).trans (hC q p hq hp).2⟩, A0, B0, hAB, (k2 3 (by decide) (by decide) 2).trans h2, (k2 3 (by decide) (by decide) 3).trans h3⟩, ⟨tb, t1, t2, t3, t4⟩, (k1 3 (by decide)).trans (h5.trans (e 6 (by decide) 0).symm), fun j hj => ?_, h7.kp e (by decide), b01_kp h8 e (by decide), sh, (e 22 (by decide) 0).trans s1, s2, fun z => ?_⟩
  · rw [k2 4 (by decide) (by decide), h6 j hj]
    exact (e (20 + j) (by simp; omega) 0).symm
  · obtain ⟨A, B, a1, a2, a3⟩ := s3 z
    refine ⟨A, B, a1, a2.kp e (by decide), fun k hk hk2 => ?_⟩
    exact ((a3 k hk hk2).gx (Nat.le_refl _) (fun _ _ => rfl) (fun p hp j => ⟨k2 _ (by unfold idD; omega) (by unfold idD; omega) j, k2 _ (by unfold idL; omega) (by unfold idL; omega) j⟩) (fun j => k2 _ (by unfold idF; omega) (by unfold idF; omega) j)).cs e (by decide) (by decide)
theorem RL.tb {g : Gh} {κ σ : Sg} {tb : Nat} (h : RL g κ σ) (h2 : σ 2 0 = nI tb) (htb : tb ≤ 32000) : κ 1 1 = nI tb ∧ ∀ i, i < (tb + 7) / 8 → κ 2 i = σ 1 i := by
  obtain ⟨-, ⟨tb', a1, a2, a3, a4⟩, -⟩ := h
  have et : tb' = tb := (nI_eq (by omega) (by omega)).mp (a2.symm.trans h2)
  subst et
  exact ⟨a1, a4⟩
theorem RL.q {g : Gh} {κ σ : Sg} {v : Int32} (h : RL g κ σ) : RL g κ (su σ 0 0 v) := by
  obtain ⟨tb, a1, a2, a3, a4⟩ := h.2.1
  exact h.tp (fun _ _ => rfl) (fun _ _ _ _ => rfl) (kp.su (by decide)) a1 a2 a3 a4
theorem RL.gx {g : Gh} {κ σ : Sg} (h : RL g κ σ) : RL (gx g) κ σ := h
theorem RL.end {g : Gh} {κ σ : Sg} {tb : Nat} {n : Int32} (h : RL g κ σ) (h2 : σ 2 0 = nI tb) (htb : tb ≤ 32000) : (fEnd σ n tb).1 = (cCut κ n tb).1 ∧ RL g (cCut κ n tb).2 (fEnd σ n tb).2 := by
  obtain ⟨a1, a4⟩ := h.tb h2 htb
  unfold fEnd cCut
  by_cases h0 : n < 0
  · rw [if_pos h0, if_pos h0]
    exact ⟨rfl, h.q⟩
  · rw [if_neg h0, if_neg h0]
    by_cases h1 : n ≤ nI ((tb + 7) / 8)
    · rw [if_pos h1, if_pos h1]
      obtain ⟨j, hj, rfl⟩ := nI_of2 (M := nI ((tb + 7) / 8)) (n := (tb + 7) / 8) (nI_toInt (by omega)) h0 h1
      refine ⟨rfl, h.tp (tb := 8 * j) (fun i hi => su_j hi) (fun i hi _ k => su_k hi) ((kp.su (by decide)).trans (kp.su (by decide))) ?_ ?_ (by omega) (fun i hi => ?_)⟩
      · show su κ 1 1 (nI 8 * nI j) 1 1 = _
        rw [su_at, pk_mul]
      · show su (su σ 0 0 (nI 0)) 2 0 (nI 8 * nI j) 2 0 = _
        rw [su_at, pk_mul]
      · show su κ 1 1 (nI 8 * nI j) 2 i = su (su σ 0 0 (nI 0)) 2 0 (nI 8 * nI j) 1 i
        rw [su_k (by decide), su_k (by decide), su_k (by decide)]
        exact a4 i (by omega)
    · rw [if_neg h1, if_neg h1]
      exact ⟨rfl, h.q⟩
theorem bs_f (v : Int32) : ∀ (n tb : Nat) (κ σ : Sg), (∀ i, i < (tb + 7) / 8 → κ 2 i = σ 1 i) → (∀ i, i < (tb + n + 7) / 8 → cBs v n tb κ 2 i = fBs2 v n tb σ 1 i) ∧ (∀ j, j ≠ 1 → cBs v n tb κ 1 j = κ 1 j) ∧ (∀ i, i ≠ 1 → i ≠ 2 → ∀ j, cBs v n tb κ i j = κ i j) ∧ kp [1, 2] σ (fBs2 v n tb σ)
  | 0, tb, κ, σ, h => ⟨h, fun _ _ => rfl, fun _ _ _ _ => rfl, kp.refl _ _⟩
  | n + 1, tb, κ, σ, h => by
    have hs : ∀ i, i < (tb + 1 + 7) / 8 → cB1 (v >>> (nI n &&& 31) &&& nI 1) tb κ 2 i = fB1 (v >>> (nI n &&& 31) &&& nI 1) tb σ 1 i := fun i hi => by
      unfold cB1 fB1
      rw [su_k (show 2 ≠ 1 by decide), su_k (show 1 ≠ 2 by decide)]
      by_cases e : i = tb / 8
      · subst e
        rw [su_at, su_at]
        by_cases e8 : tb % 8 = 0
        · rw [if_pos e8, if_pos e8]
        · rw [if_neg e8, if_neg e8, h (tb / 8) (by omega)]
      · rw [su_j e, su_j e]
        exact h i (by omega)
    obtain ⟨a, b, c, d⟩ := bs_f v n (tb + 1) _ _ hs
    have k1 : kp [1, 2] σ (fB1 (v >>> (nI n &&& 31) &&& nI 1) tb σ) := (kp.su (by decide)).trans (kp.su (by decide))
    refine ⟨fun i hi => a i (by omega), fun j hj => ?_, fun i h1 h2 j => ?_, k1.trans d⟩
    · exact (b j hj).trans ((su_j hj).trans (su_k (by decide)))
    · exact (c i h1 h2 j).trans ((su_k h1).trans (su_k h2))
theorem RL.bits {g : Gh} {κ σ : Sg} {tb : Nat} {v n : Int32} (h : RL g κ σ) (h2 : σ 2 0 = nI tb) (htb : tb ≤ 32000) : (fBits σ v n tb).1 = (cApp κ v n tb).1 ∧ RL g (cApp κ v n tb).2 (fBits σ v n tb).2 := by
  obtain ⟨a1, a4⟩ := h.tb h2 htb
  unfold fBits cApp
  by_cases h0 : n < nI 1
  · rw [if_pos h0, if_pos h0]
    exact ⟨rfl, h.q⟩
  · rw [if_neg h0, if_neg h0]
    by_cases h1 : nI 32 < n
    · rw [if_pos h1, if_pos h1]
      exact ⟨rfl, h.q⟩
    · rw [if_neg h1, if_neg h1]
      by_cases h3 : nI tb + n ≤ nI 32000
      · rw [if_pos h3, if_pos h3]
        have hn0 : ¬ n < 0 := fun z => h0 (by rw [i_lt] at z ⊢; have e1 : (nI 1).toInt = 1 := by decide
                                              have e0 : (0 : Int32).toInt = 0 := by decide
                                              omega)
        obtain ⟨m, hm, rfl⟩ := nI_of2 (M := nI 32) (n := 32) (by decide) hn0 (Int32.not_lt.mp h1)
        rw [nI_clamp (by omega)]
        have hm2 : tb + m ≤ 32000 := by
          rw [nI_add] at h3
          exact (nI_leI (by omega) (by decide)).mp h3
        obtain ⟨b1, b2, b3, b4⟩ := bs_f v m tb κ (su σ 0 0 (nI 0)) a4
        refine ⟨rfl, h.tp (tb := tb + m) b2 b3 ((kp.su (by decide)).trans (b4.mono (by decide))) (cBs_T v m tb ⟨a1, htb⟩ hm2).1 (bs2_T v m tb (σ := su σ 0 0 (nI 0)) ⟨h2, htb⟩ hm2).1 hm2 b1⟩
      · rw [if_neg h3, if_neg h3]
        exact ⟨rfl, h.q⟩
def kFd (κ : Sg) (a b c d e : Int32) (nb : Nat) : Sg := cBs e 32 (8 * (nb + 16)) (cBs d 32 (8 * (nb + 12)) (cBs c 32 (8 * (nb + 8)) (cBs b 32 (8 * (nb + 4)) (cBs a 32 (8 * nb) (su κ 1 1 (nI (8 * nb)))))))
theorem RL.feed {g : Gh} {κ σ : Sg} {tb : Nat} {a b c d e : Int32} (h : RL g κ σ) (h2 : σ 2 0 = nI tb) (htb : tb ≤ 32000) (hn : (tb + 7) / 8 + 20 ≤ 4000) : RL g (kFd κ a b c d e ((tb + 7) / 8)) (fFeed σ a b c d e tb).2 ∧ wT (kFd κ a b c d e ((tb + 7) / 8)) (8 * ((tb + 7) / 8 + 20)) := by
  obtain ⟨a1, a4⟩ := h.tb h2 htb
  have e9 : (fFeed σ a b c d e tb).2 = su (fFd σ a b c d e ((tb + 7) / 8) 20) 2 0 (nI (8 * ((tb + 7) / 8 + 20))) := by
    unfold fFeed
    rw [if_pos hn]
  rw [e9]
  generalize (tb + 7) / 8 = nb at *
  have w0 : wT (su κ 1 1 (nI (8 * nb))) (8 * nb) := ⟨su_at _ _ _ _, by omega⟩
  have w1 := cBs_T a 32 (8 * nb) w0 (by omega)
  rw [show 8 * nb + 32 = 8 * (nb + 4) by omega] at w1
  have w2 := cBs_T b 32 _ w1 (by omega)
  rw [show 8 * (nb + 4) + 32 = 8 * (nb + 8) by omega] at w2
  have w3 := cBs_T c 32 _ w2 (by omega)
  rw [show 8 * (nb + 8) + 32 = 8 * (nb + 12) by omega] at w3
  have w4 := cBs_T d 32 _ w3 (by omega)
  rw [show 8 * (nb + 12) + 32 = 8 * (nb + 16) by omega] at w4
  have w5 := cBs_T e 32 _ w4 (by omega)
  rw [show 8 * (nb + 16) + 32 = 8 * (nb + 20) by omega] at w5
  refine ⟨?_, w5⟩
  obtain ⟨p1, q1, r1⟩ := by32 (v := a) (m := nb) (κ := su κ 1 1 (nI (8 * nb)))
  obtain ⟨p2, q2, r2⟩ := by32 (v := b) (m := nb + 4) (κ := cBs a 32 (8 * nb) (su κ 1 1 (nI (8 * nb))))
  obtain ⟨p3, q3, r3⟩ := by32 (v := c) (m := nb + 8) (κ := cBs b 32 (8 * (nb + 4)) (cBs a 32 (8 * nb) (su κ 1 1 (nI (8 * nb)))))
  obtain ⟨p4, q4, r4⟩ := by32 (v := d) (m := nb + 12) (κ := cBs c 32 (8 * (nb + 8)) (cBs b 32 (8 * (nb + 4)) (cBs a 32 (8 * nb) (su κ 1 1 (nI (8 * nb))))))
  obtain ⟨p5, q5, r5⟩ := by32 (v := e) (m := nb + 16) (κ := cBs d 32 (8 * (nb + 12)) (cBs c 32 (8 * (nb + 8)) (cBs b 32 (8 * (nb + 4)) (cBs a 32 (8 * nb) (su κ 1 1 (nI (8 * nb)))))))
  have kσ : kp [0, 1, 2, 42] σ (su (fFd σ a b c d e nb 20) 2 0 (nI (8 * (nb + 20)))) := by
    unfold fFd fFv
    exact ((((((((kp.su (by decide)).trans (kp.su (by decide))).trans (kp.su (by decide))).trans (kp.su (by decide))).trans (kp.su (by decide))).trans (kp.su (by decide)))).trans (kp.sa (by decide))).trans (kp.su (by decide))
  refine h.tp (tb := 8 * (nb + 20)) (fun j hj => ?_) (fun i h1 h2 j => ?_) kσ w5.1 (su_at _ _ _ _) (by omega) (fun i hi => ?_)
  · unfold kFd
    rw [q5 j hj, q4 j hj, q3 j hj, q2 j hj, q1 j hj, su_j hj]
  · unfold kFd
    rw [r5 i h1 h2, r4 i h1 h2, r3 i h1 h2, r2 i h1 h2, r1 i h1 h2, su_k h1]
  · unfold kFd
    rw [su_k (by decide)]
    unfold fFd
    rw [sa_at, p5, p4, p3, p2, p1]
    by_cases h5 : nb + 16 ≤ i ∧ i < nb + 16 + 4
    · rw [if_pos h5, if_pos (by omega), show (i - nb) / 4 = 4 by omega, show (i - nb) % 4 = i - (nb + 16) by omega]
      rfl
    · rw [if_neg h5]
      by_cases h4 : nb + 12 ≤ i ∧ i < nb + 12 + 4
      · rw [if_pos h4, if_pos (by omega), show (i - nb) / 4 = 3 by omega, show (i - nb) % 4 = i - (nb + 12) by omega]
        rfl
      · rw [if_neg h4]
        by_cases h3 : nb + 8 ≤ i ∧ i < nb + 8 + 4
        · rw [if_pos h3, if_pos (by omega), show (i - nb) / 4 = 2 by omega, show (i - nb) % 4 = i - (nb + 8) by omega]
          rfl
        · rw [if_neg h3]
          by_cases h2' : nb + 4 ≤ i ∧ i < nb + 4 + 4
          · rw [if_pos h2', if_pos (by omega), show (i - nb) / 4 = 1 by omega, show (i - nb) % 4 = i - (nb + 4) by omega]
            rfl
          · rw [if_neg h2']
            by_cases h1 : nb ≤ i ∧ i < nb + 4
            · rw [if_pos h1, if_pos (by omega), show (i - nb) / 4 = 0 by omega, show (i - nb) % 4 = i - nb by omega]
              rfl
            · rw [if_neg h1, if_neg (by omega), su_k (by decide)]
              exact a4 i (by omega)
/-! questions -/
theorem np_iff {σ : Sg} {k : Int32} : ¬ fNP σ k = 0 → (k < 0 ∨ nI 20 ≤ k ∨ σ 22 0 ≤ k) := by
  intro h
  unfold fNP at h
  by_cases h1 : k < 0
  · exact Or.inl h1
  · rw [if_neg h1] at h
    by_cases h2 : σ 22 0 ≤ k
    · exact Or.inr (Or.inr h2)
    · rw [if_neg h2] at h
      by_cases h3 : k < nI 20
      · rw [if_pos h3] at h
        exact absurd rfl h
      · exact Or.inr (Or.inl (Int32.not_lt.mp h3))
theorem RL.kept {g : Gh} {κ σ : Sg} {K : Nat} (h : RL g κ σ) (hK : K < 20) (hk : ¬ σ 22 0 ≤ nI K) : ∃ A B, okAB A B ∧ okD σ A B ∧ KO A B g K κ σ ∧ nI K < κ 4 2 := by
  obtain ⟨-, -, -, h6, -, -, sh, s1, s2, s3⟩ := h
  have hlt : K < sh := by
    rw [s1] at hk
    exact Nat.lt_of_not_le (fun z => hk (nI_le z (by omega)))
  obtain ⟨A, B, a1, a2, a3⟩ := s3 (by omega)
  exact ⟨A, B, a1, a2, a3 K hK hlt, by rw [h6 2 (by decide)]; exact Int32.not_le.mp hk⟩
theorem dot_e {A B K P : Nat} {g : Gh} {κ σ : Sg} {x y : Int32} (hA : okAB A B) (hD : okD σ A B) (hP : P < 3) (h : KO A B g K κ σ) (hK : K < 20) (hl : fNL σ (nI K) (nI P) = 0) : cDo κ (3 + K) P A B x y = fDt σ A B (nI K) (nI P) x y := by
  have hw := wd_r (A := A) (p := P) hA.1
  have hh := wd_r (A := B) (p := P) hA.2
  unfold cDo fDt
  rw [if_pos hl, pW_n hD (by omega), pH_n hD (by omega), nI_clamp (by omega), nI_clamp (by omega)]
  by_cases h1 : x < 0
  · rw [if_pos h1, if_pos h1]
  · rw [if_neg h1, if_neg h1]
    by_cases h2 : nI (wdN A P) ≤ x
    · rw [if_pos h2]
      by_cases h3 : y < 0
      · rw [if_pos h3]
      · rw [if_neg h3, if_pos h2]
    · rw [if_neg h2]
      by_cases h3 : y < 0
      · rw [if_pos h3, if_pos h3]
      · rw [if_neg h3, if_neg h3, if_neg h2]
        by_cases h4 : y < nI (wdN B P)
        · rw [if_pos h4, if_pos h4]
          obtain ⟨x', hx, rfl⟩ := nI_of h1
          obtain ⟨y', hy, rfl⟩ := nI_of h3
          have hx2 : x' < wdN A P := Nat.lt_of_not_le (fun z => h2 (nI_le z hx))
          have hy2 : y' < wdN B P := (nI_ltI hy (by omega)).mp h4
          rw [nI_clamp hx, nI_clamp hy]
          have hi : y' * wdN A P + x' < wdN A P * wdN B P := by
            rw [Nat.mul_comm y']
            exact ix_lt hx2 hy2
          rw [h.2.2.1 P _ hP hi]
          congr 2
          rw [Nat.mul_comm y']
          omega
        · rw [if_neg h4, if_neg h4]
theorem sum_e {A B K P : Nat} {g : Gh} {κ σ : Sg} (hP : P < 3) (h : KO A B g K κ σ) (hK : K < 20) (hl : fNL σ (nI K) (nI P) = 0) : sg (nI 0) (fun i => κ (idD (3 + K) P) i * nI (i + 1)) (wdN A P * wdN B P) = fSu σ A B (nI K) (nI P) := by
  unfold fSu
  rw [if_pos hl, nI_clamp (by omega), nI_clamp (by omega)]
  refine sg_c _ (fun i hi => ?_)
  rw [h.2.2.1 P i hP hi, Nat.add_comm i 1]
  congr 2
  congr 1
  omega
