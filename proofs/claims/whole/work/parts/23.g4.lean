/-! ===== foretells ===== -/
def plN (A B j : Nat) : Nat := if j < 256 * A * B then 0 else if j < 320 * A * B then 1 else 2
def ofN (A B j : Nat) : Nat := j - atN A B (plN A B j)
def xN (A B j : Nat) : Nat := ofN A B j % wdN A (plN A B j)
def yN (A B j : Nat) : Nat := ofN A B j / wdN A (plN A B j)
def szN (P : Nat) : Nat := if P = 0 then 16 else 8
theorem wdN_sz (A P : Nat) : wdN A P = szN P * A := by unfold wdN szN; split <;> rfl
theorem wdN_pos {A P : Nat} (h : 1 ≤ A) : 1 ≤ wdN A P := by unfold wdN; split <;> omega
theorem atN_0 (A B : Nat) : atN A B 0 = 0 := rfl
theorem atN_1 (A B : Nat) : atN A B 1 = 256 * (A * B) := by show 256 * A * B + (1 - 1) * 64 * A * B = _; rw [Nat.mul_assoc]; simp
theorem atN_2 (A B : Nat) : atN A B 2 = 320 * (A * B) := by show 256 * A * B + (2 - 1) * 64 * A * B = _; rw [Nat.mul_assoc, Nat.mul_assoc]; omega
theorem atN_3 (A B : Nat) : atN A B 3 = 384 * (A * B) := by show 256 * A * B + (3 - 1) * 64 * A * B = _; rw [Nat.mul_assoc, Nat.mul_assoc]; omega
theorem dec_n {A B P x y : Nat} (hA : 1 ≤ A ∧ A ≤ 4) (hB : 1 ≤ B ∧ B ≤ 4) (hP : P < 3) (h1 : x < wdN A P) (h2 : y < wdN B P) : plN A B (atN A B P + wdN A P * y + x) = P ∧ xN A B (atN A B P + wdN A P * y + x) = x ∧ yN A B (atN A B P + wdN A P * y + x) = y := by
  have e : plN A B (atN A B P + wdN A P * y + x) = P := by
    have h3 := idx_lt hA hB hP h1 h2
    generalize wdN A P * y = z at h3 ⊢
    unfold plN
    rw [Nat.mul_assoc, Nat.mul_assoc]
    rcases (show P = 0 ∨ P = 1 ∨ P = 2 by omega) with rfl | rfl | rfl
    · rw [atN_0] at h3 ⊢
      rw [atN_1] at h3
      rw [if_pos (by omega)]
    · rw [atN_1] at h3 ⊢
      rw [atN_2] at h3
      rw [if_neg (by omega), if_pos (by omega)]
    · rw [atN_2] at h3 ⊢
      rw [if_neg (by omega), if_neg (by omega)]
  have e2 : ofN A B (atN A B P + wdN A P * y + x) = wdN A P * y + x := by unfold ofN; rw [e]; omega
  refine ⟨e, ?_, ?_⟩
  · unfold xN
    rw [e, e2, Nat.mul_add_mod, Nat.mod_eq_of_lt h1]
  · unfold yN
    rw [e, e2, Nat.mul_add_div (by omega), Nat.div_eq_of_lt h1, Nat.add_zero]
theorem enc_n {A B j : Nat} (hA : 1 ≤ A) : atN A B (plN A B j) + wdN A (plN A B j) * yN A B j + xN A B j = j := by
  have h1 : atN A B (plN A B j) ≤ j := by
    unfold plN
    rw [Nat.mul_assoc, Nat.mul_assoc]
    split
    · exact Nat.zero_le _
    · split
      · rw [atN_1]; omega
      · rw [atN_2]; omega
  have h2 := Nat.div_add_mod (ofN A B j) (wdN A (plN A B j))
  unfold xN yN
  unfold ofN at h2 ⊢
  omega
theorem enc_iff {A B P x y j : Nat} (hA : 1 ≤ A ∧ A ≤ 4) (hB : 1 ≤ B ∧ B ≤ 4) (hP : P < 3) (h1 : x < wdN A P) (h2 : y < wdN B P) : j = atN A B P + wdN A P * y + x ↔ plN A B j = P ∧ yN A B j = y ∧ xN A B j = x := by
  constructor
  · rintro rfl
    have := dec_n hA hB hP h1 h2
    exact ⟨this.1, this.2.2, this.2.1⟩
  · rintro ⟨a, b, c⟩
    have := enc_n (A := A) (B := B) (j := j) hA.1
    rw [a, b, c] at this
    exact this.symm
/-- what square s foretells at the place j -/
def tdN (σ : Sg) (A B j : Nat) : Int32 := fFD σ (nI (plN A B j)) (nI (xN A B j)) (nI (yN A B j))
abbrev inS (A B s j : Nat) : Prop := xN A B j / szN (plN A B j) = s % A ∧ yN A B j / szN (plN A B j) = s / A
abbrev ltN (A B p y x j : Nat) : Prop := plN A B j < p ∨ (plN A B j = p ∧ (yN A B j < y ∨ (yN A B j = y ∧ xN A B j < x)))
def fTp (σ : Sg) (A B s p y x : Nat) : Sg := sa σ 9 (fun j => if inS A B s j ∧ ltN A B p y x j then tdN σ A B j else σ 9 j)
def fT (σ : Sg) (A B s : Nat) : Sg := sa σ 9 (fun j => if inS A B s j then tdN σ A B j else σ 9 j)
theorem fTp_c {σ : Sg} {A B s p y x p' y' x' : Nat} (h : ∀ j, inS A B s j → (ltN A B p y x j ↔ ltN A B p' y' x' j)) : fTp σ A B s p y x = fTp σ A B s p' y' x' := by
  refine sa_ext (fun j => ?_)
  by_cases e : inS A B s j
  · by_cases e2 : ltN A B p y x j
    · rw [if_pos ⟨e, e2⟩, if_pos ⟨e, (h j e).mp e2⟩]
    · rw [if_neg (fun z => e2 z.2), if_neg (fun z => e2 ((h j e).mpr z.2))]
  · rw [if_neg (fun z => e z.1), if_neg (fun z => e z.1)]
theorem dv {a d q : Nat} (hd : 0 < d) (h : a / d = q) : d * q ≤ a ∧ a < d * q + d := by
  have h1 := Nat.div_add_mod a d
  have h2 := Nat.mod_lt a hd
  rw [h] at h1
  omega
theorem szN_pos (P : Nat) : 0 < szN P ∧ szN P ≤ 16 := by unfold szN; split <;> omega
theorem fT_1 {σ : Sg} {A B s p : Nat} : fTp σ A B s p 0 0 = fTp σ A B s p (szN p * (s / A) + 0) 0 := fTp_c (fun j hj => by
  have h := dv (szN_pos _).1 hj.2
  constructor
  · rintro (a | ⟨a, b⟩)
    · exact Or.inl a
    · omega
  · rintro (a | ⟨a, b⟩)
    · exact Or.inl a
    · rw [a] at h; omega)
theorem fT_2 {σ : Sg} {A B s p : Nat} : fTp σ A B s p (szN p * (s / A) + szN p) 0 = fTp σ A B s (p + 1) 0 0 := fTp_c (fun j hj => by
  have h := dv (szN_pos _).1 hj.2
  constructor
  · rintro (a | ⟨a, b⟩)
    · exact Or.inl (by omega)
    · exact Or.inl (by omega)
  · rintro (a | ⟨a, b⟩)
    · by_cases e : plN A B j = p
      · rw [e] at h; exact Or.inr ⟨e, by omega⟩
      · exact Or.inl (by omega)
    · omega)
theorem fT_3 {σ : Sg} {A B s p y : Nat} : fTp σ A B s p y 0 = fTp σ A B s p y (szN p * (s % A) + 0) := fTp_c (fun j hj => by
  have h := dv (szN_pos _).1 hj.1
  constructor
  · rintro (a | ⟨a, b⟩)
    · exact Or.inl a
    · exact Or.inr ⟨a, by omega⟩
  · rintro (a | ⟨a, b⟩)
    · exact Or.inl a
    · rw [a] at h; exact Or.inr ⟨a, by omega⟩)
theorem fT_4 {σ : Sg} {A B s p y : Nat} : fTp σ A B s p y (szN p * (s % A) + szN p) = fTp σ A B s p (y + 1) 0 := fTp_c (fun j hj => by
  have h := dv (szN_pos _).1 hj.1
  constructor
  · rintro (a | ⟨a, b⟩)
    · exact Or.inl a
    · exact Or.inr ⟨a, by omega⟩
  · rintro (a | ⟨a, b⟩)
    · exact Or.inl a
    · rw [a] at h; exact Or.inr ⟨a, by omega⟩)
theorem fT_5 {σ : Sg} {A B s : Nat} : fTp σ A B s 3 0 0 = fT σ A B s := sa_ext (fun j => by
  have h : plN A B j < 3 := by unfold plN; split <;> (try split) <;> omega
  by_cases e : inS A B s j
  · rw [if_pos ⟨e, Or.inl h⟩, if_pos e]
  · rw [if_neg (fun z => e z.1), if_neg e])
theorem fT_0 {σ : Sg} {A B s : Nat} : fTp σ A B s 0 0 0 = σ := sa_self (fun j => by
  rw [if_neg]
  rintro ⟨-, a | ⟨-, b⟩⟩ <;> omega)
theorem sq_in {A s P i : Nat} (hA : 1 ≤ A) (hi : i < szN P) : szN P * (s % A) + i < wdN A P := by
  rw [wdN_sz]
  have h1 : s % A + 1 ≤ A := Nat.mod_lt s (by omega)
  have h2 := Nat.mul_le_mul_left (szN P) h1
  rw [Nat.mul_add] at h2
  omega
theorem sq_in2 {A B s P i : Nat} (hs : s < A * B) (hi : i < szN P) : szN P * (s / A) + i < wdN B P := by
  rw [wdN_sz]
  have h1 : s / A + 1 ≤ B := Nat.div_lt_of_lt_mul hs
  have h2 := Nat.mul_le_mul_left (szN P) h1
  rw [Nat.mul_add] at h2
  omega
theorem fT_s {σ : Sg} {A B s p y x : Nat} (hA : 1 ≤ A ∧ A ≤ 4) (hB : 1 ≤ B ∧ B ≤ 4) (hp : p < 3) (hs : s < A * B) (hy : y < szN p) (hx : x < szN p) : su (fTp σ A B s p (szN p * (s / A) + y) (szN p * (s % A) + x)) 9 (atN A B p + wdN A p * (szN p * (s / A) + y) + (szN p * (s % A) + x)) (fFD σ (nI p) (nI (szN p * (s % A) + x)) (nI (szN p * (s / A) + y))) = fTp σ A B s p (szN p * (s / A) + y) (szN p * (s % A) + x + 1) := su_sa (fun j => by
  have hi := enc_iff (j := j) hA hB hp (sq_in (s := s) hA.1 hx) (sq_in2 hs hy)
  have z0 := (szN_pos p).1
  by_cases e : j = atN A B p + wdN A p * (szN p * (s / A) + y) + (szN p * (s % A) + x)
  · obtain ⟨a, b, c⟩ := hi.mp e
    rw [if_pos e, if_pos]
    · unfold tdN
      rw [a, b, c]
    · refine ⟨⟨?_, ?_⟩, Or.inr ⟨a, Or.inr ⟨b, by omega⟩⟩⟩
      · rw [c, a, Nat.mul_add_div z0, Nat.div_eq_of_lt hx, Nat.add_zero]
      · rw [b, a, Nat.mul_add_div z0, Nat.div_eq_of_lt hy, Nat.add_zero]
  · rw [if_neg e]
    have hne : ¬ (plN A B j = p ∧ yN A B j = szN p * (s / A) + y ∧ xN A B j = szN p * (s % A) + x) := fun z => e (hi.mpr z)
    have hiff : ltN A B p (szN p * (s / A) + y) (szN p * (s % A) + x + 1) j ↔ ltN A B p (szN p * (s / A) + y) (szN p * (s % A) + x) j := by
      constructor
      · rintro (a | ⟨a, b | ⟨b, c⟩⟩)
        · exact Or.inl a
        · exact Or.inr ⟨a, Or.inl b⟩
        · exact Or.inr ⟨a, Or.inr ⟨b, by omega⟩⟩
      · rintro (a | ⟨a, b | ⟨b, c⟩⟩)
        · exact Or.inl a
        · exact Or.inr ⟨a, Or.inl b⟩
        · exact Or.inr ⟨a, Or.inr ⟨b, by omega⟩⟩
    by_cases e4 : inS A B s j ∧ ltN A B p (szN p * (s / A) + y) (szN p * (s % A) + x) j
    · rw [if_pos e4, if_pos ⟨e4.1, hiff.mpr e4.2⟩]
    · rw [if_neg e4, if_neg (fun z => e4 ⟨z.1, hiff.mp z.2⟩)])
theorem fTp_eq {σ : Sg} {A B s p y x : Nat} {S : List Nat} (h : 9 ∉ S) : eqOn S σ (fTp σ A B s p y x) := eqOn.sa h
section FT
variable {s0 : State} {l : Launch} {hB : Mem} {m A B s : Nat} {σ : Sg} {P : Option Value → Sg → Prop}
theorem m_ft_x {p y : Nat} (hD : okD σ A B) (hp : p < 3) (hs : s < A * B) (hy : y < szN p) (k : GQ s0 l M_M_foretells hB m 106 [some (.ref m), some (.int (nI s)), some (.int (nI p)), some (.int (nI (szN p))), some (.int (nI (szN p * (s / A) + y))), none] [] (fTp σ A B s p (szN p * (s / A) + (y + 1)) 0) P) : GQ s0 l M_M_foretells hB m 54 [some (.ref m), some (.int (nI s)), some (.int (nI p)), some (.int (nI (szN p))), some (.int (nI (szN p * (s / A) + y))), some (.int (nI (szN p * (s % A) + 0)))] [] (fTp σ A B s p (szN p * (s / A) + y) (szN p * (s % A) + 0)) P := by
  have hs4 : s < 16 := Nat.lt_of_lt_of_le hs (Nat.mul_le_mul hD.2.2.2.1 hD.2.2.2.2.2)
  have hA0 : 0 < A ∧ A < 2 ^ 31 := by have := hD.2.2; omega
  have hm : s % A < A := Nat.mod_lt s hA0.1
  have hz := szN_pos p
  have hmul : szN p * (s % A + 1) = szN p * (s % A) + szN p := by rw [Nat.mul_add, Nat.mul_one]
  have hb1 : szN p * (s % A) + szN p ≤ 64 := by
    rw [← hmul]
    exact Nat.mul_le_mul hz.2 (by have := hD.2.2; omega : s % A + 1 ≤ 4)
  refine g_loop (szN p) (fun x => fTp σ A B s p (szN p * (s / A) + y) (szN p * (s % A) + x)) (fun x => [some (.ref m), some (.int (nI s)), some (.int (nI p)), some (.int (nI (szN p))), some (.int (nI (szN p * (s / A) + y))), some (.int (nI (szN p * (s % A) + x)))]) (fun x hx ih => ?_) ?_ 0 (Nat.zero_le _)
  · have hac : okD (fTp σ A B s p (szN p * (s / A) + y) (szN p * (s % A) + x)) A B := hD.eq (fTp_eq (by decide))
    refine g_iload d_M_foretells_54 rfl ?_
    refine g_iload_n d_M_foretells_56 rfl rfl ?_
    refine g_iload_n d_M_foretells_57 rfl rfl ?_
    refine g_aload_n d_M_foretells_58 rfl rfl ?_
    refine g_getE d_M_foretells_59 fM_35 rfl hac.1 ?_
    refine g_iremN d_M_foretells_62 ⟨by omega, hA0⟩ ?_
    refine g_iconst (v := nI 1) d_M_foretells_63 (by decide) ?_
    refine g_iaddN d_M_foretells_64  ?_
    refine g_imulN d_M_foretells_65  ?_
    refine g_icmp_ge (tgt := 106) d_M_foretells_66 (by decide) (fun c_66 => ?_) (fun c_66 => ?_)
    · rw [hmul] at c_66
      exact absurd ((nI_leI (by omega) (by omega)).mp c_66) (by omega)
    · skip
      refine g_aload_n d_M_foretells_69 rfl rfl ?_
      refine g_getA d_M_foretells_70 fM_94 (by decide) ?_
      refine g_aload_n d_M_foretells_73 rfl rfl ?_
      refine g_iload_n d_M_foretells_74 rfl rfl ?_
      refine g_calli (As := [_]) d_M_foretells_75 lM_57 mv_M_planeAt rfl rfl rfl (Nat.le_of_ble_eq_true rfl) (by decide) (m_planeAt) ?_
      refine g_aload_n d_M_foretells_78 rfl rfl ?_
      refine g_iload_n d_M_foretells_79 rfl rfl ?_
      refine g_calli (As := [_]) d_M_foretells_80 lM_51 mv_M_planeWidth rfl rfl rfl (Nat.le_of_ble_eq_true rfl) (by decide) (m_planeWidth) ?_
      rw [pA_n hac (by omega), pW_n hac (by omega)]
      refine g_iload d_M_foretells_83 rfl ?_
      refine g_imulN d_M_foretells_85  ?_
      refine g_iaddN d_M_foretells_86  ?_
      refine g_iload d_M_foretells_87 rfl ?_
      refine g_iaddN d_M_foretells_89  ?_
      refine g_aload_n d_M_foretells_90 rfl rfl ?_
      refine g_iload_n d_M_foretells_91 rfl rfl ?_
      refine g_iload d_M_foretells_92 rfl ?_
      refine g_iload d_M_foretells_94 rfl ?_
      refine g_calli (As := [_, _, _]) d_M_foretells_96 lM_97 mv_M_foretoldDot rfl rfl rfl (Nat.le_of_ble_eq_true rfl) (by decide) (m_foretoldDot hac hp) ?_
      have hlt := (idx_lt ⟨hD.2.2.1, hD.2.2.2.1⟩ ⟨hD.2.2.2.2.1, hD.2.2.2.2.2⟩ hp (sq_in (s := s) hD.2.2.1 hx) (sq_in2 hs hy))
      rw [fFD_eq (fTp_eq (by decide))]
      refine g_iastore (k := 9) d_M_foretells_99 rfl (by decide) (by decide) rfl (vp_in_nI (Nat.lt_of_lt_of_le hlt.1 (Nat.le_trans hlt.2.1 hlt.2.2)) (by decide)) ?_
      first | refine g_iinc1 d_M_foretells_100 rfl ?_ | refine g_iinc d_M_foretells_100 rfl ?_
      refine g_goto (tgt := 54) d_M_foretells_103 (by decide) ?_
      rw [nI_clamp (by omega), fT_s ⟨hD.2.2.1, hD.2.2.2.1⟩ ⟨hD.2.2.2.2.1, hD.2.2.2.2.2⟩ hp hs hy hx]
      exact ih
  · have hac : okD (fTp σ A B s p (szN p * (s / A) + y) (szN p * (s % A) + szN p)) A B := hD.eq (fTp_eq (by decide))
    refine g_iload d_M_foretells_54 rfl ?_
    refine g_iload_n d_M_foretells_56 rfl rfl ?_
    refine g_iload_n d_M_foretells_57 rfl rfl ?_
    refine g_aload_n d_M_foretells_58 rfl rfl ?_
    refine g_getE d_M_foretells_59 fM_35 rfl hac.1 ?_
    refine g_iremN d_M_foretells_62 ⟨by omega, hA0⟩ ?_
    refine g_iconst (v := nI 1) d_M_foretells_63 (by decide) ?_
    refine g_iaddN d_M_foretells_64  ?_
    refine g_imulN d_M_foretells_65  ?_
    refine g_icmp_ge (tgt := 106) d_M_foretells_66 (by decide) (fun c_66 => ?_) (fun c_66 => ?_)
    · skip
      show GQ s0 l M_M_foretells hB m 106 _ [] (fTp σ A B s p (szN p * (s / A) + y) (szN p * (s % A) + szN p)) P
      rw [fT_4]
      exact g_forget 5 k
    · rw [hmul] at c_66
      exact absurd (nI_le (Nat.le_refl _) (by omega)) c_66
theorem m_ft_y {p : Nat} (hD : okD σ A B) (hp : p < 3) (hs : s < A * B) (k : GQ s0 l M_M_foretells hB m 112 [some (.ref m), some (.int (nI s)), some (.int (nI p)), none, none, none] [] (fTp σ A B s (p + 1) 0 0) P) : GQ s0 l M_M_foretells hB m 29 [some (.ref m), some (.int (nI s)), some (.int (nI p)), some (.int (nI (szN p))), some (.int (nI (szN p * (s / A) + 0))), none] [] (fTp σ A B s p (szN p * (s / A) + 0) 0) P := by
  have hs4 : s < 16 := Nat.lt_of_lt_of_le hs (Nat.mul_le_mul hD.2.2.2.1 hD.2.2.2.2.2)
  have hA0 : 0 < A ∧ A < 2 ^ 31 := by have := hD.2.2; omega
  have hm : s / A + 1 ≤ B := Nat.div_lt_of_lt_mul hs
  have hz := szN_pos p
  have hmul : szN p * (s / A + 1) = szN p * (s / A) + szN p := by rw [Nat.mul_add, Nat.mul_one]
  have hb1 : szN p * (s / A) + szN p ≤ 64 := by
    rw [← hmul]
    exact Nat.mul_le_mul hz.2 (by have := hD.2.2; omega : s / A + 1 ≤ 4)
  refine g_loop (szN p) (fun y => fTp σ A B s p (szN p * (s / A) + y) 0) (fun y => [some (.ref m), some (.int (nI s)), some (.int (nI p)), some (.int (nI (szN p))), some (.int (nI (szN p * (s / A) + y))), none]) (fun y hy ih => ?_) ?_ 0 (Nat.zero_le _)
  · have hac : okD (fTp σ A B s p (szN p * (s / A) + y) 0) A B := hD.eq (fTp_eq (by decide))
    refine g_iload d_M_foretells_29 rfl ?_
    refine g_iload_n d_M_foretells_31 rfl rfl ?_
    refine g_iload_n d_M_foretells_32 rfl rfl ?_
    refine g_aload_n d_M_foretells_33 rfl rfl ?_
    refine g_getE d_M_foretells_34 fM_35 rfl hac.1 ?_
    refine g_idivN d_M_foretells_37 ⟨by omega, hA0⟩ ?_
    refine g_iconst (v := nI 1) d_M_foretells_38 (by decide) ?_
    refine g_iaddN d_M_foretells_39  ?_
    refine g_imulN d_M_foretells_40  ?_
    refine g_icmp_ge (tgt := 112) d_M_foretells_41 (by decide) (fun c_41 => ?_) (fun c_41 => ?_)
    · rw [hmul] at c_41
      exact absurd ((nI_leI (by omega) (by omega)).mp c_41) (by omega)
    · skip
      refine g_iload_n d_M_foretells_44 rfl rfl ?_
      refine g_iload_n d_M_foretells_45 rfl rfl ?_
      refine g_aload_n d_M_foretells_46 rfl rfl ?_
      refine g_getE d_M_foretells_47 fM_35 rfl hac.1 ?_
      refine g_iremN d_M_foretells_50 ⟨by omega, hA0⟩ ?_
      refine g_imulN d_M_foretells_51  ?_
      refine g_istore d_M_foretells_52 (Nat.le_of_ble_eq_true rfl) ?_
      show GQ s0 l M_M_foretells hB m 54 _ [] (fTp σ A B s p (szN p * (s / A) + y) 0) P
      rw [fT_3]
      refine m_ft_x hD hp hs hy ?_
      first | refine g_iinc1 d_M_foretells_106 rfl ?_ | refine g_iinc d_M_foretells_106 rfl ?_
      refine g_goto (tgt := 29) d_M_foretells_109 (by decide) ?_
      exact ih
  · have hac : okD (fTp σ A B s p (szN p * (s / A) + szN p) 0) A B := hD.eq (fTp_eq (by decide))
    refine g_iload d_M_foretells_29 rfl ?_
    refine g_iload_n d_M_foretells_31 rfl rfl ?_
    refine g_iload_n d_M_foretells_32 rfl rfl ?_
    refine g_aload_n d_M_foretells_33 rfl rfl ?_
    refine g_getE d_M_foretells_34 fM_35 rfl hac.1 ?_
    refine g_idivN d_M_foretells_37 ⟨by omega, hA0⟩ ?_
    refine g_iconst (v := nI 1) d_M_foretells_38 (by decide) ?_
    refine g_iaddN d_M_foretells_39  ?_
    refine g_imulN d_M_foretells_40  ?_
    refine g_icmp_ge (tgt := 112) d_M_foretells_41 (by decide) (fun c_41 => ?_) (fun c_41 => ?_)
    · skip
      show GQ s0 l M_M_foretells hB m 112 _ [] (fTp σ A B s p (szN p * (s / A) + szN p) 0) P
      rw [fT_2]
      exact g_forget 3 (g_forget 4 k)
    · rw [hmul] at c_41
      exact absurd (nI_le (Nat.le_refl _) (by omega)) c_41
end FT
theorem m_foretells {s0 : State} {l : Launch} {m A B s : Nat} {σ : Sg} (hD : okD σ A B) (hs : s < A * B) : GC s0 l M_M_foretells m [.int (nI s)] σ (fun r σ' => r = none ∧ σ' = fT σ A B s) := by
  have hs4 : s < 16 := Nat.lt_of_lt_of_le hs (Nat.mul_le_mul hD.2.2.2.1 hD.2.2.2.2.2)
  have hA0 : 0 < A ∧ A < 2 ^ 31 := by have := hD.2.2; omega
  refine g_in (by decide) rfl rfl (Nat.le_of_ble_eq_true rfl) (fun hB => ?_)
  refine g_iconst (v := nI 0) d_M_foretells_0 (by decide) ?_
  refine g_istore_n d_M_foretells_1 rfl (Nat.le_of_ble_eq_true rfl) ?_
  have key := g_loop (s0 := s0) (l := l) (M := M_M_foretells) (hB := hB) (m := m) (pc := 2) (P := fun r σ' => r = none ∧ σ' = fT σ A B s) 3 (fun p => fTp σ A B s p 0 0) (fun p => [some (.ref m), some (.int (nI s)), some (.int (nI p)), none, none, none]) (fun p hp ih => ?_) ?_ 0 (by decide)
  · rw [fT_0] at key
    exact key
  · have hac : okD (fTp σ A B s p 0 0) A B := hD.eq (fTp_eq (by decide))
    refine g_iload_n d_M_foretells_2 rfl rfl ?_
    refine g_iconst (v := nI 3) d_M_foretells_3 (by decide) ?_
    refine g_icmp_ge (tgt := 118) d_M_foretells_4 (by decide) (fun c_4 => ?_) (fun c_4 => ?_)
    · exact absurd ((nI_leI (by omega) (by omega)).mp c_4) (by omega)
    · skip
      refine g_iload_n d_M_foretells_7 rfl rfl ?_
      refine g_if_ne (tgt := 16) d_M_foretells_8 (by decide) (fun c_8 => ?_) (fun c_8 => ?_)
      · skip
        refine g_bipush (v := nI 8) d_M_foretells_16 (by decide) ?_
        have hsz : szN p = 8 := by unfold szN; first | rw [if_pos ((nI_eq (by omega) (by decide)).mp c_8)] | rw [if_neg (fun e => c_8 (by rw [e]; rfl))]
        rw [← hsz]
        refine g_istore_n d_M_foretells_18 rfl (Nat.le_of_ble_eq_true rfl) ?_
        refine g_iload_n d_M_foretells_19 rfl rfl ?_
        refine g_iload_n d_M_foretells_20 rfl rfl ?_
        refine g_aload_n d_M_foretells_21 rfl rfl ?_
        refine g_getE d_M_foretells_22 fM_35 rfl hac.1 ?_
        refine g_idivN d_M_foretells_25 ⟨by omega, hA0⟩ ?_
        refine g_imulN d_M_foretells_26  ?_
        refine g_istore d_M_foretells_27 (Nat.le_of_ble_eq_true rfl) ?_
        show GQ s0 l M_M_foretells hB m 29 _ [] (fTp σ A B s p 0 0) _
        rw [fT_1]
        refine m_ft_y hD hp hs ?_
        first | refine g_iinc1 d_M_foretells_112 rfl ?_ | refine g_iinc d_M_foretells_112 rfl ?_
        refine g_goto (tgt := 2) d_M_foretells_115 (by decide) ?_
        exact ih
      · skip
        refine g_bipush (v := nI 16) d_M_foretells_11 (by decide) ?_
        refine g_goto (tgt := 18) d_M_foretells_13 (by decide) ?_
        have hsz : szN p = 16 := by unfold szN; first | rw [if_pos ((nI_eq (by omega) (by decide)).mp c_8)] | rw [if_neg (fun e => c_8 (by rw [e]; rfl))]
        rw [← hsz]
        refine g_istore_n d_M_foretells_18 rfl (Nat.le_of_ble_eq_true rfl) ?_
        refine g_iload_n d_M_foretells_19 rfl rfl ?_
        refine g_iload_n d_M_foretells_20 rfl rfl ?_
        refine g_aload_n d_M_foretells_21 rfl rfl ?_
        refine g_getE d_M_foretells_22 fM_35 rfl hac.1 ?_
        refine g_idivN d_M_foretells_25 ⟨by omega, hA0⟩ ?_
        refine g_imulN d_M_foretells_26  ?_
        refine g_istore d_M_foretells_27 (Nat.le_of_ble_eq_true rfl) ?_
        show GQ s0 l M_M_foretells hB m 29 _ [] (fTp σ A B s p 0 0) _
        rw [fT_1]
        refine m_ft_y hD hp hs ?_
        first | refine g_iinc1 d_M_foretells_112 rfl ?_ | refine g_iinc d_M_foretells_112 rfl ?_
        refine g_goto (tgt := 2) d_M_foretells_115 (by decide) ?_
        exact ih
  · skip
    refine g_iload_n d_M_foretells_2 rfl rfl ?_
    refine g_iconst (v := nI 3) d_M_foretells_3 (by decide) ?_
    refine g_icmp_ge (tgt := 118) d_M_foretells_4 (by decide) (fun c_4 => ?_) (fun c_4 => ?_)
    · skip
      refine g_vret d_M_foretells_118 rfl ?_
      exact ⟨rfl, fT_5⟩
    · exact absurd (nI_le (Nat.le_refl 3) (by decide)) c_4
