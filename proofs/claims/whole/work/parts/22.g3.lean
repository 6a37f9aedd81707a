/-! ===== loops; whole arrays ===== -/
def sa (σ : Sg) (k : Nat) (f : Nat → Int32) : Sg := fun a b => if a = k then f b else σ a b
theorem sa_at (σ : Sg) (k : Nat) (f : Nat → Int32) (j : Nat) : sa σ k f k j = f j := by simp [sa]
theorem sa_k {σ : Sg} {k a b : Nat} {f : Nat → Int32} (h : a ≠ k) : sa σ k f a b = σ a b := by simp [sa, h]
theorem su_sa {σ : Sg} {k j : Nat} {f g : Nat → Int32} {v : Int32} (h : ∀ i, g i = if i = j then v else f i) : su (sa σ k f) k j v = sa σ k g := by
  funext a b
  unfold su sa
  by_cases e : a = k
  · by_cases e2 : b = j
    · simp [e, e2, h]
    · simp [e, e2, h]
  · simp [e]
theorem sa_self {σ : Sg} {k : Nat} {f : Nat → Int32} (h : ∀ j, f j = σ k j) : sa σ k f = σ := by
  funext a b
  unfold sa
  split
  · rename_i e; rw [e, h]
  · rfl
theorem sa_ext {σ : Sg} {k : Nat} {f g : Nat → Int32} (h : ∀ j, f j = g j) : sa σ k f = sa σ k g := by rw [funext h]
section Loop
variable {s0 : State} {l : Launch} {M M' : MI} {hB : Mem} {m pc : Nat} {L : List (Option Value)} {st : List Value} {σ : Sg} {P : Option Value → Sg → Prop}
theorem RQ.forget {h : Mem} {Q : Out → Mem → Prop} (i : Nat) (k : RQ s0 l M hB pc (L.set i none) st h Q) : RQ s0 l M hB pc L st h Q := by
  obtain ⟨o, hE, ⟨k1, k2⟩, q⟩ := k
  refine ⟨o, hE, ⟨k1, fun p e s m args below meth c E H locs ls S => k2 p e s m args below meth c E H locs ls ?_⟩, q⟩
  obtain ⟨a1, a2, a3, a4, a5⟩ := S
  refine ⟨a1, a2, ?_, a4, a5⟩
  obtain ⟨b1, b2, b3, b4⟩ := a3
  refine ⟨b1, b2, by rw [List.length_set]; exact b3, fun j w hj => ?_⟩
  rw [List.getElem?_set] at hj
  by_cases e : i = j
  · rw [if_pos e] at hj
    split at hj <;> cases hj
  · rw [if_neg e] at hj
    exact b4 j w hj
theorem g_forget (i : Nat) (k : GQ s0 l M hB m pc (L.set i none) st σ P) : GQ s0 l M hB m pc L st σ P := fun h hM => RQ.forget i (k h hM)
theorem g_loop (N : Nat) (S : Nat → Sg) (Lf : Nat → List (Option Value)) (hstep : ∀ i, i < N → GQ s0 l M hB m pc (Lf (i + 1)) [] (S (i + 1)) P → GQ s0 l M hB m pc (Lf i) [] (S i) P) (hend : GQ s0 l M hB m pc (Lf N) [] (S N) P) : ∀ i, i ≤ N → GQ s0 l M hB m pc (Lf i) [] (S i) P := by
  intro i hi
  obtain ⟨n, rfl⟩ := Nat.exists_eq_add_of_le hi
  clear hi
  induction n generalizing i with
  | zero => exact hend
  | succ n ih =>
    refine hstep i (by omega) ?_
    have e : i + (n + 1) = i + 1 + n := by omega
    rw [e] at hstep hend
    exact ih (i + 1) hstep hend
theorem g_iinc1 {i x : Nat} (hd : decode (iC M) pc = .ok (.iinc i 1, 3)) (hl : L[i]? = some (some (.int (nI x)))) (k : GQ s0 l M hB m (pc + 3) (L.set i (some (.int (nI (x + 1))))) st σ P) : GQ s0 l M hB m pc L st σ P := by
  refine g_iinc hd hl ?_
  have e : nI x + Int32.ofInt 1 = nI (x + 1) := nI_1 x
  rw [e]
  exact k
theorem g_getE {idx k : Nat} {x : Int32} (hd : decode (iC M) pc = .ok (.getfield idx, 3)) (hf : FL (iY M).cls idx 7 k) (hs : aOff k = 0) (hx : σ k 0 = x) (kk : GQ s0 l M hB m (pc + 3) L (.int x :: st) σ P) : GQ s0 l M hB m pc L (.ref m :: st) σ P := g_get hd hf hs (by rw [hx]; exact kk)
theorem g_iaddN {a b : Nat} (hd : decode (iC M) pc = .ok (.iadd, 1)) (k : GQ s0 l M hB m (pc + 1) L (.int (nI (a + b)) :: st) σ P) : GQ s0 l M hB m pc L (.int (nI b) :: .int (nI a) :: st) σ P := g_iadd hd (by rw [nI_add]; exact k)
theorem g_imulN {a b : Nat} (hd : decode (iC M) pc = .ok (.imul, 1)) (k : GQ s0 l M hB m (pc + 1) L (.int (nI (a * b)) :: st) σ P) : GQ s0 l M hB m pc L (.int (nI b) :: .int (nI a) :: st) σ P := g_imul hd (by rw [pk_mul]; exact k)
theorem g_isubN {a b : Nat} (hd : decode (iC M) pc = .ok (.isub, 1)) (h : b ≤ a) (k : GQ s0 l M hB m (pc + 1) L (.int (nI (a - b)) :: st) σ P) : GQ s0 l M hB m pc L (.int (nI b) :: .int (nI a) :: st) σ P := g_isub hd (by rw [pk_sub h]; exact k)
theorem g_idivN {a b : Nat} (hd : decode (iC M) pc = .ok (.idiv, 1)) (h : a < 2 ^ 31 ∧ 0 < b ∧ b < 2 ^ 31) (k : GQ s0 l M hB m (pc + 1) L (.int (nI (a / b)) :: st) σ P) : GQ s0 l M hB m pc L (.int (nI b) :: .int (nI a) :: st) σ P := g_idiv hd (nI_ne0 h.2.1 h.2.2) (by rw [pk_div h.1 h.2.1 h.2.2]; exact k)
theorem g_iremN {a b : Nat} (hd : decode (iC M) pc = .ok (.irem, 1)) (h : a < 2 ^ 31 ∧ 0 < b ∧ b < 2 ^ 31) (k : GQ s0 l M hB m (pc + 1) L (.int (nI (a % b)) :: st) σ P) : GQ s0 l M hB m pc L (.int (nI b) :: .int (nI a) :: st) σ P := g_irem hd (nI_ne0 h.2.1 h.2.2) (by rw [pk_rem h.1 h.2.1 h.2.2]; exact k)
end Loop
def eqOn (S : List Nat) (σ σ' : Sg) : Prop := ∀ k, k ∈ S → ∀ j, σ' k j = σ k j
theorem eqOn.trans {S : List Nat} {a b c : Sg} (h : eqOn S a b) (h' : eqOn S b c) : eqOn S a c := fun k hk j => (h' k hk j).trans (h k hk j)
theorem eqOn.mono {S T : List Nat} {a b : Sg} (h : eqOn S a b) (hs : ∀ k, k ∈ T → k ∈ S) : eqOn T a b := fun k hk j => h k (hs k hk) j
theorem eqOn.su {S : List Nat} {σ : Sg} {k j : Nat} {v : Int32} (h : k ∉ S) : eqOn S σ (su σ k j v) := fun k' hk' j' => su_k (fun e => h (e ▸ hk'))
theorem eqOn.sa {S : List Nat} {σ : Sg} {k : Nat} {f : Nat → Int32} (h : k ∉ S) : eqOn S σ (sa σ k f) := fun k' hk' j' => sa_k (fun e => h (e ▸ hk'))
theorem okD.eq {σ σ' : Sg} {A B : Nat} (h : okD σ A B) (e : eqOn [7, 8] σ σ') : okD σ' A B := ⟨(e 7 (by decide) 0).trans h.1, (e 8 (by decide) 0).trans h.2.1, h.2.2⟩
theorem fDot_eq {σ σ' : Sg} {k : Nat} (h : ∀ j, σ' k j = σ k j) (e : eqOn [7, 8] σ σ') (p x y : Int32) : fDot σ' k p x y = fDot σ k p x y := by
  unfold fDot dIx pA pW pH
  rw [h, e 7 (by decide), e 8 (by decide)]
theorem fMv_eq {σ σ' : Sg} {k : Nat} (h : ∀ j, σ' k j = σ k j) (e : eqOn [7, 8, 28] σ σ') (p x y : Int32) (w : Nat) : fMv σ' k p x y w = fMv σ k p x y w := by
  have e2 : eqOn [7, 8] σ σ' := e.mono (by simp)
  unfold fMv fBt
  simp only [fDot_eq h e2, e 28 (by decide)]
theorem fFD_eq {σ σ' : Sg} (e : eqOn [7, 8, 10, 11, 28, 30, 31, 34] σ σ') (p x y : Int32) : fFD σ' p x y = fFD σ p x y := by
  have e2 : eqOn [7, 8, 28] σ σ' := e.mono (by simp)
  have hk : fwK σ' = fwK σ := by unfold fwK; rw [e 34 (by decide)]
  have h9 : ∀ j, σ' (fwK σ) j = σ (fwK σ) j := by
    intro j
    unfold fwK
    split
    · exact e 10 (by decide) j
    · exact e 11 (by decide) j
  unfold fFD
  rw [hk, fMv_eq h9 e2, fMv_eq (fun j => e 10 (by decide) j) e2, e 30 (by decide), e 31 (by decide)]
theorem m_between {s0 : State} {l : Launch} {m : Nat} {σ : Sg} {A B P k : Nat} {x y : Int32} (hD : okD σ A B) (hP : P < 3) (hk : okK k) : GC s0 l M_M_between m [.ref (m + aOff k), .int (nI P), .int x, .int y] σ (fun r σ' => r = some (.int (fBt σ k (nI P) x y)) ∧ σ' = σ) := by
  refine g_in (by decide) rfl rfl (Nat.le_of_ble_eq_true rfl) (fun hB => ?_)
  refine g_iload_n d_M_between_0 rfl rfl ?_
  refine g_iconst (v := nI 1) d_M_between_1 (by decide) ?_
  refine g_ishr d_M_between_2 ?_
  refine g_istore d_M_between_3 (Nat.le_of_ble_eq_true rfl) ?_
  refine g_iload d_M_between_5 rfl ?_
  refine g_iconst (v := nI 1) d_M_between_7 (by decide) ?_
  refine g_ishr d_M_between_8 ?_
  refine g_istore d_M_between_9 (Nat.le_of_ble_eq_true rfl) ?_
  refine g_aload_n d_M_between_11 rfl rfl ?_
  refine g_aload_n d_M_between_12 rfl rfl ?_
  refine g_iload_n d_M_between_13 rfl rfl ?_
  refine g_iload d_M_between_14 rfl ?_
  refine g_iload d_M_between_16 rfl ?_
  refine g_calli (As := [_, _, _, _]) d_M_between_18 lM_60 mv_M_dotOf rfl rfl rfl (Nat.le_of_ble_eq_true rfl) (by decide) (m_dotOf hD hP hk) ?_
  refine g_istore d_M_between_21 (Nat.le_of_ble_eq_true rfl) ?_
  refine g_iload_n d_M_between_23 rfl rfl ?_
  refine g_iconst (v := nI 2) d_M_between_24 (by decide) ?_
  refine g_irem d_M_between_25 (by decide) ?_
  refine g_if_ne (tgt := 39) d_M_between_26 (by decide) (fun c_26 => ?_) (fun c_26 => ?_)
  · skip
    refine g_iload d_M_between_39 rfl ?_
    refine g_iconst (v := nI 2) d_M_between_41 (by decide) ?_
    refine g_irem d_M_between_42 (by decide) ?_
    refine g_if_ne (tgt := 66) d_M_between_43 (by decide) (fun c_43 => ?_) (fun c_43 => ?_)
    · skip
      refine g_iload_n d_M_between_66 rfl rfl ?_
      refine g_iconst (v := nI 2) d_M_between_67 (by decide) ?_
      refine g_irem d_M_between_68 (by decide) ?_
      refine g_if_ne (tgt := 92) d_M_between_69 (by decide) (fun c_69 => ?_) (fun c_69 => ?_)
      · skip
        refine g_iload d_M_between_92 rfl ?_
        refine g_aload_n d_M_between_94 rfl rfl ?_
        refine g_aload_n d_M_between_95 rfl rfl ?_
        refine g_iload_n d_M_between_96 rfl rfl ?_
        refine g_iload d_M_between_97 rfl ?_
        refine g_iconst (v := nI 1) d_M_between_99 (by decide) ?_
        refine g_iadd d_M_between_100 ?_
        refine g_iload d_M_between_101 rfl ?_
        refine g_calli (As := [_, _, _, _]) d_M_between_103 lM_60 mv_M_dotOf rfl rfl rfl (Nat.le_of_ble_eq_true rfl) (by decide) (m_dotOf hD hP hk) ?_
        refine g_iadd d_M_between_106 ?_
        refine g_aload_n d_M_between_107 rfl rfl ?_
        refine g_aload_n d_M_between_108 rfl rfl ?_
        refine g_iload_n d_M_between_109 rfl rfl ?_
        refine g_iload d_M_between_110 rfl ?_
        refine g_iload d_M_between_112 rfl ?_
        refine g_iconst (v := nI 1) d_M_between_114 (by decide) ?_
        refine g_iadd d_M_between_115 ?_
        refine g_calli (As := [_, _, _, _]) d_M_between_116 lM_60 mv_M_dotOf rfl rfl rfl (Nat.le_of_ble_eq_true rfl) (by decide) (m_dotOf hD hP hk) ?_
        refine g_iadd d_M_between_119 ?_
        refine g_aload_n d_M_between_120 rfl rfl ?_
        refine g_aload_n d_M_between_121 rfl rfl ?_
        refine g_iload_n d_M_between_122 rfl rfl ?_
        refine g_iload d_M_between_123 rfl ?_
        refine g_iconst (v := nI 1) d_M_between_125 (by decide) ?_
        refine g_iadd d_M_between_126 ?_
        refine g_iload d_M_between_127 rfl ?_
        refine g_iconst (v := nI 1) d_M_between_129 (by decide) ?_
        refine g_iadd d_M_between_130 ?_
        refine g_calli (As := [_, _, _, _]) d_M_between_131 lM_60 mv_M_dotOf rfl rfl rfl (Nat.le_of_ble_eq_true rfl) (by decide) (m_dotOf hD hP hk) ?_
        refine g_iadd d_M_between_134 ?_
        refine g_iconst (v := nI 2) d_M_between_135 (by decide) ?_
        refine g_iadd d_M_between_136 ?_
        refine g_iconst (v := nI 2) d_M_between_137 (by decide) ?_
        refine g_ishr d_M_between_138 ?_
        refine g_iret d_M_between_139 rfl rfl ?_
        refine ⟨?_, rfl⟩
        unfold fBt
        rw [if_neg (fun h9 : rm2 x = 0 ∧ rm2 y = 0 => c_43 h9.2), if_neg (show ¬ rm2 y = 0 from c_43), if_neg (show ¬ rm2 x = 0 from c_69)]
        rfl
      · skip
        refine g_iload d_M_between_72 rfl ?_
        refine g_aload_n d_M_between_74 rfl rfl ?_
        refine g_aload_n d_M_between_75 rfl rfl ?_
        refine g_iload_n d_M_between_76 rfl rfl ?_
        refine g_iload d_M_between_77 rfl ?_
        refine g_iload d_M_between_79 rfl ?_
        refine g_iconst (v := nI 1) d_M_between_81 (by decide) ?_
        refine g_iadd d_M_between_82 ?_
        refine g_calli (As := [_, _, _, _]) d_M_between_83 lM_60 mv_M_dotOf rfl rfl rfl (Nat.le_of_ble_eq_true rfl) (by decide) (m_dotOf hD hP hk) ?_
        refine g_iadd d_M_between_86 ?_
        refine g_iconst (v := nI 1) d_M_between_87 (by decide) ?_
        refine g_iadd d_M_between_88 ?_
        refine g_iconst (v := nI 1) d_M_between_89 (by decide) ?_
        refine g_ishr d_M_between_90 ?_
        refine g_iret d_M_between_91 rfl rfl ?_
        refine ⟨?_, rfl⟩
        unfold fBt
        rw [if_neg (fun h9 : rm2 x = 0 ∧ rm2 y = 0 => c_43 h9.2), if_neg (show ¬ rm2 y = 0 from c_43), if_pos (show rm2 x = 0 from c_69)]
        rfl
    · skip
      refine g_iload d_M_between_46 rfl ?_
      refine g_aload_n d_M_between_48 rfl rfl ?_
      refine g_aload_n d_M_between_49 rfl rfl ?_
      refine g_iload_n d_M_between_50 rfl rfl ?_
      refine g_iload d_M_between_51 rfl ?_
      refine g_iconst (v := nI 1) d_M_between_53 (by decide) ?_
      refine g_iadd d_M_between_54 ?_
      refine g_iload d_M_between_55 rfl ?_
      refine g_calli (As := [_, _, _, _]) d_M_between_57 lM_60 mv_M_dotOf rfl rfl rfl (Nat.le_of_ble_eq_true rfl) (by decide) (m_dotOf hD hP hk) ?_
      refine g_iadd d_M_between_60 ?_
      refine g_iconst (v := nI 1) d_M_between_61 (by decide) ?_
      refine g_iadd d_M_between_62 ?_
      refine g_iconst (v := nI 1) d_M_between_63 (by decide) ?_
      refine g_ishr d_M_between_64 ?_
      refine g_iret d_M_between_65 rfl rfl ?_
      refine ⟨?_, rfl⟩
      unfold fBt
      first
        | exact absurd c_43 c_33
        | (rw [if_neg (fun h9 : rm2 x = 0 ∧ rm2 y = 0 => c_26 h9.1), if_pos (show rm2 y = 0 from c_43)]; rfl)
  · skip
    refine g_iload d_M_between_29 rfl ?_
    refine g_iconst (v := nI 2) d_M_between_31 (by decide) ?_
    refine g_irem d_M_between_32 (by decide) ?_
    refine g_if_ne (tgt := 39) d_M_between_33 (by decide) (fun c_33 => ?_) (fun c_33 => ?_)
    · skip
      refine g_iload d_M_between_39 rfl ?_
      refine g_iconst (v := nI 2) d_M_between_41 (by decide) ?_
      refine g_irem d_M_between_42 (by decide) ?_
      refine g_if_ne (tgt := 66) d_M_between_43 (by decide) (fun c_43 => ?_) (fun c_43 => ?_)
      · skip
        refine g_iload_n d_M_between_66 rfl rfl ?_
        refine g_iconst (v := nI 2) d_M_between_67 (by decide) ?_
        refine g_irem d_M_between_68 (by decide) ?_
        refine g_if_ne (tgt := 92) d_M_between_69 (by decide) (fun c_69 => ?_) (fun c_69 => ?_)
        · skip
          refine g_iload d_M_between_92 rfl ?_
          refine g_aload_n d_M_between_94 rfl rfl ?_
          refine g_aload_n d_M_between_95 rfl rfl ?_
          refine g_iload_n d_M_between_96 rfl rfl ?_
          refine g_iload d_M_between_97 rfl ?_
          refine g_iconst (v := nI 1) d_M_between_99 (by decide) ?_
          refine g_iadd d_M_between_100 ?_
          refine g_iload d_M_between_101 rfl ?_
          refine g_calli (As := [_, _, _, _]) d_M_between_103 lM_60 mv_M_dotOf rfl rfl rfl (Nat.le_of_ble_eq_true rfl) (by decide) (m_dotOf hD hP hk) ?_
          refine g_iadd d_M_between_106 ?_
          refine g_aload_n d_M_between_107 rfl rfl ?_
          refine g_aload_n d_M_between_108 rfl rfl ?_
          refine g_iload_n d_M_between_109 rfl rfl ?_
          refine g_iload d_M_between_110 rfl ?_
          refine g_iload d_M_between_112 rfl ?_
          refine g_iconst (v := nI 1) d_M_between_114 (by decide) ?_
          refine g_iadd d_M_between_115 ?_
          refine g_calli (As := [_, _, _, _]) d_M_between_116 lM_60 mv_M_dotOf rfl rfl rfl (Nat.le_of_ble_eq_true rfl) (by decide) (m_dotOf hD hP hk) ?_
          refine g_iadd d_M_between_119 ?_
          refine g_aload_n d_M_between_120 rfl rfl ?_
          refine g_aload_n d_M_between_121 rfl rfl ?_
          refine g_iload_n d_M_between_122 rfl rfl ?_
          refine g_iload d_M_between_123 rfl ?_
          refine g_iconst (v := nI 1) d_M_between_125 (by decide) ?_
          refine g_iadd d_M_between_126 ?_
          refine g_iload d_M_between_127 rfl ?_
          refine g_iconst (v := nI 1) d_M_between_129 (by decide) ?_
          refine g_iadd d_M_between_130 ?_
          refine g_calli (As := [_, _, _, _]) d_M_between_131 lM_60 mv_M_dotOf rfl rfl rfl (Nat.le_of_ble_eq_true rfl) (by decide) (m_dotOf hD hP hk) ?_
          refine g_iadd d_M_between_134 ?_
          refine g_iconst (v := nI 2) d_M_between_135 (by decide) ?_
          refine g_iadd d_M_between_136 ?_
          refine g_iconst (v := nI 2) d_M_between_137 (by decide) ?_
          refine g_ishr d_M_between_138 ?_
          refine g_iret d_M_between_139 rfl rfl ?_
          refine ⟨?_, rfl⟩
          unfold fBt
          rw [if_neg (fun h9 : rm2 x = 0 ∧ rm2 y = 0 => c_43 h9.2), if_neg (show ¬ rm2 y = 0 from c_43), if_neg (show ¬ rm2 x = 0 from c_69)]
          rfl
        · skip
          refine g_iload d_M_between_72 rfl ?_
          refine g_aload_n d_M_between_74 rfl rfl ?_
          refine g_aload_n d_M_between_75 rfl rfl ?_
          refine g_iload_n d_M_between_76 rfl rfl ?_
          refine g_iload d_M_between_77 rfl ?_
          refine g_iload d_M_between_79 rfl ?_
          refine g_iconst (v := nI 1) d_M_between_81 (by decide) ?_
          refine g_iadd d_M_between_82 ?_
          refine g_calli (As := [_, _, _, _]) d_M_between_83 lM_60 mv_M_dotOf rfl rfl rfl (Nat.le_of_ble_eq_true rfl) (by decide) (m_dotOf hD hP hk) ?_
          refine g_iadd d_M_between_86 ?_
          refine g_iconst (v := nI 1) d_M_between_87 (by decide) ?_
          refine g_iadd d_M_between_88 ?_
          refine g_iconst (v := nI 1) d_M_between_89 (by decide) ?_
          refine g_ishr d_M_between_90 ?_
          refine g_iret d_M_between_91 rfl rfl ?_
          refine ⟨?_, rfl⟩
          unfold fBt
          rw [if_neg (fun h9 : rm2 x = 0 ∧ rm2 y = 0 => c_43 h9.2), if_neg (show ¬ rm2 y = 0 from c_43), if_pos (show rm2 x = 0 from c_69)]
          rfl
      · skip
        refine g_iload d_M_between_46 rfl ?_
        refine g_aload_n d_M_between_48 rfl rfl ?_
        refine g_aload_n d_M_between_49 rfl rfl ?_
        refine g_iload_n d_M_between_50 rfl rfl ?_
        refine g_iload d_M_between_51 rfl ?_
        refine g_iconst (v := nI 1) d_M_between_53 (by decide) ?_
        refine g_iadd d_M_between_54 ?_
        refine g_iload d_M_between_55 rfl ?_
        refine g_calli (As := [_, _, _, _]) d_M_between_57 lM_60 mv_M_dotOf rfl rfl rfl (Nat.le_of_ble_eq_true rfl) (by decide) (m_dotOf hD hP hk) ?_
        refine g_iadd d_M_between_60 ?_
        refine g_iconst (v := nI 1) d_M_between_61 (by decide) ?_
        refine g_iadd d_M_between_62 ?_
        refine g_iconst (v := nI 1) d_M_between_63 (by decide) ?_
        refine g_ishr d_M_between_64 ?_
        refine g_iret d_M_between_65 rfl rfl ?_
        refine ⟨?_, rfl⟩
        unfold fBt
        first
          | exact absurd c_43 c_33
          | (rw [if_neg (fun h9 : rm2 x = 0 ∧ rm2 y = 0 => c_26 h9.1), if_pos (show rm2 y = 0 from c_43)]; rfl)
    · skip
      refine g_iload d_M_between_36 rfl ?_
      refine g_iret d_M_between_38 rfl rfl ?_
      refine ⟨?_, rfl⟩
      unfold fBt
      rw [if_pos (show rm2 x = 0 ∧ rm2 y = 0 from ⟨c_26, c_33⟩)]
      rfl

theorem nI_ofw {w : Nat} (hw : w < 2) : vp_in (nI 2 * nI w) (aLen 28) ∧ vp_in (nI 2 * nI w + nI 1) (aLen 28) ∧ (nI 2 * nI w).toNatClampNeg = 2 * w ∧ (nI 2 * nI w + nI 1).toNatClampNeg = 2 * w + 1 := by
  rw [pk_mul, nI_add]
  exact ⟨vp_in_nI (by show 2 * w < 4; omega) (by decide), vp_in_nI (by show 2 * w + 1 < 4; omega) (by decide), nI_clamp (by omega), nI_clamp (by omega)⟩
theorem m_moved {s0 : State} {l : Launch} {m : Nat} {σ : Sg} {A B P k w : Nat} {x y : Int32} (hD : okD σ A B) (hP : P < 3) (hk : okK k) (hw : w < 2) : GC s0 l M_M_moved m [.ref (m + aOff k), .int (nI P), .int x, .int y, .int (nI w)] σ (fun r σ' => r = some (.int (fMv σ k (nI P) x y w)) ∧ σ' = σ) := by
  refine g_in (by decide) rfl rfl (Nat.le_of_ble_eq_true rfl) (fun hB => ?_)
  refine g_aload_n d_M_moved_0 rfl rfl ?_
  refine g_getA d_M_moved_1 fM_64 (by decide) ?_
  refine g_iconst (v := nI 2) d_M_moved_4 (by decide) ?_
  refine g_iload d_M_moved_5 rfl ?_
  refine g_imul d_M_moved_7 ?_
  refine g_iaload (k := 28) d_M_moved_8 rfl (by decide) (by decide) rfl (nI_ofw hw).1 ?_
  refine g_istore d_M_moved_9 (Nat.le_of_ble_eq_true rfl) ?_
  refine g_aload_n d_M_moved_11 rfl rfl ?_
  refine g_getA d_M_moved_12 fM_64 (by decide) ?_
  refine g_iconst (v := nI 2) d_M_moved_15 (by decide) ?_
  refine g_iload d_M_moved_16 rfl ?_
  refine g_imul d_M_moved_18 ?_
  refine g_iconst (v := nI 1) d_M_moved_19 (by decide) ?_
  refine g_iadd d_M_moved_20 ?_
  refine g_iaload (k := 28) d_M_moved_21 rfl (by decide) (by decide) rfl (nI_ofw hw).2.1 ?_
  refine g_istore d_M_moved_22 (Nat.le_of_ble_eq_true rfl) ?_
  refine g_iload_n d_M_moved_24 rfl rfl ?_
  refine g_if_le (tgt := 40) d_M_moved_25 (by decide) (fun c_25 => ?_) (fun c_25 => ?_)
  · skip
    refine g_aload_n d_M_moved_40 rfl rfl ?_
    refine g_aload_n d_M_moved_41 rfl rfl ?_
    refine g_iload_n d_M_moved_42 rfl rfl ?_
    refine g_iconst (v := nI 2) d_M_moved_43 (by decide) ?_
    refine g_iload_n d_M_moved_44 rfl rfl ?_
    refine g_imul d_M_moved_45 ?_
    refine g_iload d_M_moved_46 rfl ?_
    refine g_iadd d_M_moved_48 ?_
    refine g_iconst (v := nI 2) d_M_moved_49 (by decide) ?_
    refine g_iload d_M_moved_50 rfl ?_
    refine g_imul d_M_moved_52 ?_
    refine g_iload d_M_moved_53 rfl ?_
    refine g_iadd d_M_moved_55 ?_
    refine g_calli (As := [_, _, _, _]) d_M_moved_56 lM_67 mv_M_between rfl rfl rfl (Nat.le_of_ble_eq_true rfl) (by decide) (m_between hD hP hk) ?_
    refine g_iret d_M_moved_59 rfl rfl ?_
    refine ⟨?_, rfl⟩
    unfold fMv
    obtain ⟨-, -, e1, e2⟩ := nI_ofw hw
    rw [e1, e2]
    first
      | rw [if_pos c_25]
      | rw [if_neg c_25]
  · skip
    refine g_iload d_M_moved_28 rfl ?_
    refine g_iconst (v := nI 2) d_M_moved_30 (by decide) ?_
    refine g_idiv d_M_moved_31 (by decide) ?_
    refine g_istore d_M_moved_32 (Nat.le_of_ble_eq_true rfl) ?_
    refine g_iload d_M_moved_34 rfl ?_
    refine g_iconst (v := nI 2) d_M_moved_36 (by decide) ?_
    refine g_idiv d_M_moved_37 (by decide) ?_
    refine g_istore d_M_moved_38 (Nat.le_of_ble_eq_true rfl) ?_
    refine g_aload_n d_M_moved_40 rfl rfl ?_
    refine g_aload_n d_M_moved_41 rfl rfl ?_
    refine g_iload_n d_M_moved_42 rfl rfl ?_
    refine g_iconst (v := nI 2) d_M_moved_43 (by decide) ?_
    refine g_iload_n d_M_moved_44 rfl rfl ?_
    refine g_imul d_M_moved_45 ?_
    refine g_iload d_M_moved_46 rfl ?_
    refine g_iadd d_M_moved_48 ?_
    refine g_iconst (v := nI 2) d_M_moved_49 (by decide) ?_
    refine g_iload d_M_moved_50 rfl ?_
    refine g_imul d_M_moved_52 ?_
    refine g_iload d_M_moved_53 rfl ?_
    refine g_iadd d_M_moved_55 ?_
    refine g_calli (As := [_, _, _, _]) d_M_moved_56 lM_67 mv_M_between rfl rfl rfl (Nat.le_of_ble_eq_true rfl) (by decide) (m_between hD hP hk) ?_
    refine g_iret d_M_moved_59 rfl rfl ?_
    refine ⟨?_, rfl⟩
    unfold fMv
    obtain ⟨-, -, e1, e2⟩ := nI_ofw hw
    rw [e1, e2]
    first
      | rw [if_pos c_25]
      | rw [if_neg c_25]

theorem m_foretoldDot {s0 : State} {l : Launch} {m : Nat} {σ : Sg} {A B P : Nat} {x y : Int32} (hD : okD σ A B) (hP : P < 3) : GC s0 l M_M_foretoldDot m [.int (nI P), .int x, .int y] σ (fun r σ' => r = some (.int (fFD σ (nI P) x y)) ∧ σ' = σ) := by
  refine g_in (by decide) rfl rfl (Nat.le_of_ble_eq_true rfl) (fun hB => ?_)
  refine g_aload_n d_M_foretoldDot_0 rfl rfl ?_
  refine g_get d_M_foretoldDot_1 fM_79 rfl ?_
  refine g_if_eq (tgt := 44) d_M_foretoldDot_4 (by decide) (fun c_4 => ?_) (fun c_4 => ?_)
  · skip
    refine g_aload_n d_M_foretoldDot_44 rfl rfl ?_
    refine g_get d_M_foretoldDot_45 fM_79 rfl ?_
    refine g_if_eq (tgt := 66) d_M_foretoldDot_48 (by decide) (fun c_48 => ?_) (fun c_48 => ?_)
    · skip
      refine g_aload_n d_M_foretoldDot_66 rfl rfl ?_
      refine g_aload_n d_M_foretoldDot_67 rfl rfl ?_
      refine g_getA d_M_foretoldDot_68 fM_73 (by decide) ?_
      refine g_iload_n d_M_foretoldDot_71 rfl rfl ?_
      refine g_iload_n d_M_foretoldDot_72 rfl rfl ?_
      refine g_iload_n d_M_foretoldDot_73 rfl rfl ?_
      refine g_iconst (v := nI 1) d_M_foretoldDot_74 (by decide) ?_
      refine g_calli (As := [_, _, _, _, _]) d_M_foretoldDot_75 lM_90 mv_M_moved rfl rfl rfl (Nat.le_of_ble_eq_true rfl) (by decide) (m_moved (k := 10) (w := 1) hD hP okK10 (by decide)) ?_
      refine g_iret d_M_foretoldDot_78 rfl rfl ?_
      refine ⟨?_, rfl⟩
      unfold fFD
      first
        | exact absurd c_4 c_48
        | exact absurd c_48 c_4
        | rw [if_pos c_4]
        | rw [if_neg c_4, if_pos c_11]
    · skip
      refine g_aload_n d_M_foretoldDot_51 rfl rfl ?_
      refine g_aload_n d_M_foretoldDot_52 rfl rfl ?_
      refine g_callw (As := []) d_M_foretoldDot_53 lM_86 mv_M_forward rfl rfl rfl (Nat.le_of_ble_eq_true rfl) (by decide) (m_forward) ?_
      refine g_iload_n d_M_foretoldDot_56 rfl rfl ?_
      refine g_iload_n d_M_foretoldDot_57 rfl rfl ?_
      refine g_iload_n d_M_foretoldDot_58 rfl rfl ?_
      refine g_iconst (v := nI 0) d_M_foretoldDot_59 (by decide) ?_
      refine g_calli (As := [_, _, _, _, _]) d_M_foretoldDot_60 lM_90 mv_M_moved rfl rfl rfl (Nat.le_of_ble_eq_true rfl) (by decide) (m_moved (w := 0) hD hP (okKf σ) (by decide)) ?_
      refine g_goto (tgt := 78) d_M_foretoldDot_63 (by decide) ?_
      refine g_iret d_M_foretoldDot_78 rfl rfl ?_
      refine ⟨?_, rfl⟩
      unfold fFD
      first
        | exact absurd c_4 c_48
        | exact absurd c_48 c_4
        | rw [if_pos c_4]
        | rw [if_neg c_4, if_pos c_11]
  · skip
    refine g_aload_n d_M_foretoldDot_7 rfl rfl ?_
    refine g_get d_M_foretoldDot_8 fM_83 rfl ?_
    refine g_if_eq (tgt := 44) d_M_foretoldDot_11 (by decide) (fun c_11 => ?_) (fun c_11 => ?_)
    · skip
      refine g_aload_n d_M_foretoldDot_44 rfl rfl ?_
      refine g_get d_M_foretoldDot_45 fM_79 rfl ?_
      refine g_if_eq (tgt := 66) d_M_foretoldDot_48 (by decide) (fun c_48 => ?_) (fun c_48 => ?_)
      · skip
        refine g_aload_n d_M_foretoldDot_66 rfl rfl ?_
        refine g_aload_n d_M_foretoldDot_67 rfl rfl ?_
        refine g_getA d_M_foretoldDot_68 fM_73 (by decide) ?_
        refine g_iload_n d_M_foretoldDot_71 rfl rfl ?_
        refine g_iload_n d_M_foretoldDot_72 rfl rfl ?_
        refine g_iload_n d_M_foretoldDot_73 rfl rfl ?_
        refine g_iconst (v := nI 1) d_M_foretoldDot_74 (by decide) ?_
        refine g_calli (As := [_, _, _, _, _]) d_M_foretoldDot_75 lM_90 mv_M_moved rfl rfl rfl (Nat.le_of_ble_eq_true rfl) (by decide) (m_moved (k := 10) (w := 1) hD hP okK10 (by decide)) ?_
        refine g_iret d_M_foretoldDot_78 rfl rfl ?_
        refine ⟨?_, rfl⟩
        unfold fFD
        first
          | exact absurd c_4 c_48
          | exact absurd c_48 c_4
          | rw [if_pos c_4]
          | rw [if_neg c_4, if_pos c_11]
      · skip
        refine g_aload_n d_M_foretoldDot_51 rfl rfl ?_
        refine g_aload_n d_M_foretoldDot_52 rfl rfl ?_
        refine g_callw (As := []) d_M_foretoldDot_53 lM_86 mv_M_forward rfl rfl rfl (Nat.le_of_ble_eq_true rfl) (by decide) (m_forward) ?_
        refine g_iload_n d_M_foretoldDot_56 rfl rfl ?_
        refine g_iload_n d_M_foretoldDot_57 rfl rfl ?_
        refine g_iload_n d_M_foretoldDot_58 rfl rfl ?_
        refine g_iconst (v := nI 0) d_M_foretoldDot_59 (by decide) ?_
        refine g_calli (As := [_, _, _, _, _]) d_M_foretoldDot_60 lM_90 mv_M_moved rfl rfl rfl (Nat.le_of_ble_eq_true rfl) (by decide) (m_moved (w := 0) hD hP (okKf σ) (by decide)) ?_
        refine g_goto (tgt := 78) d_M_foretoldDot_63 (by decide) ?_
        refine g_iret d_M_foretoldDot_78 rfl rfl ?_
        refine ⟨?_, rfl⟩
        unfold fFD
        first
          | exact absurd c_4 c_48
          | exact absurd c_48 c_4
          | rw [if_pos c_4]
          | rw [if_neg c_4, if_pos c_11]
    · skip
      refine g_aload_n d_M_foretoldDot_14 rfl rfl ?_
      refine g_aload_n d_M_foretoldDot_15 rfl rfl ?_
      refine g_callw (As := []) d_M_foretoldDot_16 lM_86 mv_M_forward rfl rfl rfl (Nat.le_of_ble_eq_true rfl) (by decide) (m_forward) ?_
      refine g_iload_n d_M_foretoldDot_19 rfl rfl ?_
      refine g_iload_n d_M_foretoldDot_20 rfl rfl ?_
      refine g_iload_n d_M_foretoldDot_21 rfl rfl ?_
      refine g_iconst (v := nI 0) d_M_foretoldDot_22 (by decide) ?_
      refine g_calli (As := [_, _, _, _, _]) d_M_foretoldDot_23 lM_90 mv_M_moved rfl rfl rfl (Nat.le_of_ble_eq_true rfl) (by decide) (m_moved (w := 0) hD hP (okKf σ) (by decide)) ?_
      refine g_aload_n d_M_foretoldDot_26 rfl rfl ?_
      refine g_aload_n d_M_foretoldDot_27 rfl rfl ?_
      refine g_getA d_M_foretoldDot_28 fM_73 (by decide) ?_
      refine g_iload_n d_M_foretoldDot_31 rfl rfl ?_
      refine g_iload_n d_M_foretoldDot_32 rfl rfl ?_
      refine g_iload_n d_M_foretoldDot_33 rfl rfl ?_
      refine g_iconst (v := nI 1) d_M_foretoldDot_34 (by decide) ?_
      refine g_calli (As := [_, _, _, _, _]) d_M_foretoldDot_35 lM_90 mv_M_moved rfl rfl rfl (Nat.le_of_ble_eq_true rfl) (by decide) (m_moved (k := 10) (w := 1) hD hP okK10 (by decide)) ?_
      refine g_iadd d_M_foretoldDot_38 ?_
      refine g_iconst (v := nI 1) d_M_foretoldDot_39 (by decide) ?_
      refine g_iadd d_M_foretoldDot_40 ?_
      refine g_iconst (v := nI 1) d_M_foretoldDot_41 (by decide) ?_
      refine g_ishr d_M_foretoldDot_42 ?_
      refine g_iret d_M_foretoldDot_43 rfl rfl ?_
      refine ⟨?_, rfl⟩
      unfold fFD
      rw [if_neg c_4, if_neg c_11]
      rfl

