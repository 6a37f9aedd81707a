/-! ===== a picture's state, between its squares and in one ===== -/
abbrev SI (g : Gh) : List Nat := [1, 4, 6, 7, 8, 9, 10, 11, 12, idF (gN g), idD (gN g) 0, idD (gN g) 1, idD (gN g) 2]
def SX (A B : Nat) (g : Gh) (κ σ : Sg) : Prop := (okG g ∧ okAB A B ∧ CI g κ ∧ okQ g κ (gN g) A B ∧ κ 3 2 = nI A ∧ κ 3 3 = nI B) ∧ okD σ A B ∧ okO σ ∧ (¬ σ 12 0 = 0 → DR A B (gT g) 10 (fun _ _ => True) κ σ ∧ ∀ p, p < 3 → wdN A p * wdN B p ≤ gL g (idD (gT g) p)) ∧ (¬ σ 13 0 = 0 → DR A B (gO g) 11 (fun _ _ => True) κ σ ∧ ∀ p, p < 3 → wdN A p * wdN B p ≤ gL g (idD (gO g) p))
theorem idL_SI {g : Gh} {q p : Nat} (hp : p < 3) : idL q p ∉ SI g := by
  have h1 := id_LD q p (gN g) 0 hp (by decide)
  have h2 := id_LD q p (gN g) 1 hp (by decide)
  have h3 := id_LD q p (gN g) 2 hp (by decide)
  have h4 : idL q p ≠ idF (gN g) := by unfold idL idF; omega
  have h5 : 23 ≤ idL q p := by unfold idL; omega
  simp only [SI, List.mem_cons, List.not_mem_nil, or_false, not_or]
  refine ⟨by omega, by omega, by omega, by omega, by omega, by omega, by omega, by omega, by omega, h4, h1, h2, h3⟩
theorem idD_SI {g : Gh} {q p : Nat} (hp : p < 3) (hq : q ≠ gN g) : idD q p ∉ SI g := by
  have h1 := id_DD (q := q) (q2 := gN g) hp (show 0 < 3 by decide) hq
  have h2 := id_DD (q := q) (q2 := gN g) hp (show 1 < 3 by decide) hq
  have h3 := id_DD (q := q) (q2 := gN g) hp (show 2 < 3 by decide) hq
  have h4 : idD q p ≠ idF (gN g) := by unfold idD idF; omega
  have h5 : 26 ≤ idD q p := by unfold idD; omega
  simp only [SI, List.mem_cons, List.not_mem_nil, or_false, not_or]
  refine ⟨by omega, by omega, by omega, by omega, by omega, by omega, by omega, by omega, by omega, h4, h1, h2, h3⟩
theorem n3_SI {g : Gh} : 3 ∉ SI g := by
  simp only [SI, List.mem_cons, List.not_mem_nil, or_false, not_or]
  unfold idF idD
  refine ⟨by omega, by omega, by omega, by omega, by omega, by omega, by omega, by omega, by omega, by omega, by omega, by omega, by omega⟩
theorem SX.ck {A B : Nat} {g : Gh} {κ κ' σ : Sg} (h : SX A B g κ σ) (e : kp (SI g) κ κ') : SX A B g κ' σ := by
  obtain ⟨⟨h1, h2, h3, h4, h5, h6⟩, h7, h8, h9, h10⟩ := h
  refine ⟨⟨h1, h2, fun q p hq hp => ⟨(h3 q p hq hp).1, (e _ (idL_SI hp) 0).trans (h3 q p hq hp).2⟩, fun p hp => ?_, (e 3 n3_SI 2).trans h5, (e 3 n3_SI 3).trans h6⟩, h7, h8, fun z => ⟨(h9 z).1.ck e (fun p hp => idD_SI hp h1.1.2.2.2.1.symm), (h9 z).2⟩, fun z => ⟨(h10 z).1.ck e (fun p hp => idD_SI hp h1.1.2.2.2.2.1.symm), (h10 z).2⟩⟩
  obtain ⟨a, b, c, d⟩ := h4 p hp
  exact ⟨(e _ (idL_SI hp) 0).trans a, (e _ (idL_SI hp) 1).trans b, (e _ (idL_SI hp) 2).trans c, d⟩
theorem SX.cs {A B : Nat} {g : Gh} {κ σ σ' : Sg} (h : SX A B g κ σ) (e : kp SQ σ σ') : SX A B g κ σ' := by
  obtain ⟨h1, h7, h8, h9, h10⟩ := h
  refine ⟨h1, h7.kp e (by decide), h8.kp e (by decide), fun z => ?_, fun z => ?_⟩
  · rw [e 12 (by decide)] at z
    exact ⟨(h9 z).1.cs e (by decide), (h9 z).2⟩
  · rw [e 13 (by decide)] at z
    exact ⟨(h10 z).1.cs e (by decide), (h10 z).2⟩
def SO (σ : Sg) : Prop := (σ 34 0 = nI 1 ∨ σ 34 0 = nI 2 ∨ σ 34 0 = nI 3) ∧ (σ 34 0 = nI 2 → ¬ σ 12 0 = 0) ∧ (σ 34 0 = nI 3 → ¬ σ 13 0 = 0 ∧ ¬ σ 12 0 = 0)
def HD (κ σ : Sg) : Prop := κ 6 6 = σ 34 0 ∧ κ 6 7 = σ 35 0 ∧ SO σ ∧ (¬ σ 34 0 = nI 1 → ∃ R, okV R ∧ κ 6 8 = nI R ∧ vr σ = nI R)
def VR (κ σ : Sg) : Prop := ∀ R, okV R → vr σ = nI R → VG R σ ∧ (∀ j, j < 2 → κ 11 j = σ 29 j) ∧ ∀ j, j < 2 → κ 12 j = σ 29 (2 + j)
def FC (g : Gh) (n : Int32) (κ σ : Sg) : Prop := κ (idF (gN g)) 0 = σ 34 0 ∧ κ (idF (gN g)) 1 = n ∧ κ (idF (gN g)) 2 = σ 40 0 ∧ κ (idF (gN g)) 3 = σ 41 0
def WY (κ σ : Sg) : Prop := σ 34 0 = nI 3 → (¬ σ 32 0 = 0 ∧ κ 6 9 = nI 0) ∨ (σ 32 0 = 0 ∧ ∃ f b, f < 2 ∧ b < 2 ∧ 2 * f + b ≠ 0 ∧ κ 6 9 = nI (2 * f + b) ∧ σ 30 0 = nI f ∧ σ 31 0 = nI b ∧ (f = 1 → ∀ j, j < 2 → σ 28 j = σ 29 j) ∧ (b = 1 → ∀ j, j < 2 → σ 28 (2 + j) = σ 29 (2 + j)) ∧ ∀ j, j < 4 → -1100 ≤ (σ 28 j).toInt ∧ (σ 28 j).toInt ≤ 1100)
/-- in a square -/
def IN (A B s : Nat) (g : Gh) (n : Int32) (κ σ : Sg) : Prop := SX A B g κ σ ∧ TRel κ σ ∧ TA κ σ ∧ HD κ σ ∧ FC g n κ σ ∧ DR A B (gN g) 9 (fun p i => sqN A p i < s) κ σ ∧ DC κ σ ∧ VR κ σ
/-- between squares: s of them are through -/
def BT (A B s : Nat) (g : Gh) (n : Int32) (κ σ : Sg) : Prop := SX A B g κ σ ∧ TRel κ σ ∧ TA κ σ ∧ HD κ σ ∧ FC g n κ σ ∧ DR A B (gN g) 9 (fun p i => sqN A p i < s) κ σ ∧ (¬ s % A = 0 → DC κ σ ∧ VR κ σ ∧ WY κ σ)
theorem VR.ck {S : List Nat} {κ κ' σ : Sg} (h : VR κ σ) (e : kp S κ κ') (h1 : 11 ∉ S) (h2 : 12 ∉ S) : VR κ' σ := fun R hR hv => by
  obtain ⟨a, b, c⟩ := h R hR hv
  exact ⟨a, fun j hj => (e 11 h1 j).trans (b j hj), fun j hj => (e 12 h2 j).trans (c j hj)⟩
theorem VR.cs {S : List Nat} {κ σ σ' : Sg} (h : VR κ σ) (e : kp S σ σ') (h1 : 29 ∉ S) (h2 : 36 ∉ S) : VR κ σ' := fun R hR hv => by
  have hv' : vr σ = nI R := by
    unfold vr at hv ⊢
    rw [← e 36 h2]
    exact hv
  obtain ⟨a, b, c⟩ := h R hR hv'
  exact ⟨fun j hj => by rw [e 29 h1]; exact a j hj, fun j hj => (b j hj).trans (e 29 h1 j).symm, fun j hj => (c j hj).trans (e 29 h1 _).symm⟩
theorem DC.ck {S : List Nat} {κ κ' σ : Sg} (h : DC κ σ) (e : kp S κ κ') (h1 : 10 ∉ S) : DC κ' σ := fun p hp => by
  obtain ⟨d, a, b, c⟩ := h p hp
  exact ⟨d, a, (e 10 h1 p).trans b, c⟩
theorem DC.cs {S : List Nat} {κ σ σ' : Sg} (h : DC κ σ) (e : kp S σ σ') (h1 : 33 ∉ S) : DC κ σ' := fun p hp => by
  obtain ⟨d, a, b, c⟩ := h p hp
  exact ⟨d, a, b, (e 33 h1 p).trans c⟩
theorem SO.cs {S : List Nat} {σ σ' : Sg} (h : SO σ) (e : kp S σ σ') (h1 : 34 ∉ S) (h2 : 12 ∉ S) (h3 : 13 ∉ S) : SO σ' := by
  unfold SO
  rw [e 34 h1, e 12 h2, e 13 h3]
  exact h
theorem vr_cs {S : List Nat} {σ σ' : Sg} (e : kp S σ σ') (h : 36 ∉ S) : vr σ' = vr σ := by
  unfold vr
  rw [e 36 h]
theorem HD.cs {S : List Nat} {κ σ σ' : Sg} (h : HD κ σ) (e : kp S σ σ') (h1 : 34 ∉ S) (h2 : 12 ∉ S) (h3 : 13 ∉ S) (h4 : 35 ∉ S) (h5 : 36 ∉ S) : HD κ σ' := by
  obtain ⟨a, b, c, d⟩ := h
  refine ⟨a.trans (e 34 h1 0).symm, b.trans (e 35 h4 0).symm, c.cs e h1 h2 h3, fun z => ?_⟩
  rw [e 34 h1] at z
  obtain ⟨R, x, y, w⟩ := d z
  exact ⟨R, x, y, (vr_cs e h5).trans w⟩
theorem HD.ck {S : List Nat} {κ κ' σ : Sg} (h : HD κ σ) (e : kp S κ κ') (h1 : 6 ∉ S) : HD κ' σ := by
  obtain ⟨a, b, c, d⟩ := h
  refine ⟨(e 6 h1 6).trans a, (e 6 h1 7).trans b, c, fun z => ?_⟩
  obtain ⟨R, x, y, w⟩ := d z
  exact ⟨R, x, (e 6 h1 8).trans y, w⟩
theorem FC.ck {S : List Nat} {g : Gh} {n : Int32} {κ κ' σ : Sg} (h : FC g n κ σ) (e : kp S κ κ') (h1 : idF (gN g) ∉ S) : FC g n κ' σ := by
  obtain ⟨a, b, c, d⟩ := h
  exact ⟨(e _ h1 0).trans a, (e _ h1 1).trans b, (e _ h1 2).trans c, (e _ h1 3).trans d⟩
theorem FC.cs {S : List Nat} {g : Gh} {n : Int32} {κ σ σ' : Sg} (h : FC g n κ σ) (e : kp S σ σ') (h1 : 34 ∉ S) (h2 : 40 ∉ S) (h3 : 41 ∉ S) : FC g n κ σ' := by
  obtain ⟨a, b, c, d⟩ := h
  exact ⟨a.trans (e 34 h1 0).symm, b, c.trans (e 40 h2 0).symm, d.trans (e 41 h3 0).symm⟩
theorem nF {q n : Nat} (h : n < 20) : idF q ≠ n := by unfold idF; omega
theorem IN.read {A B s : Nat} {g : Gh} {n : Int32} {κ σ σ' : Sg} (h : IN A B s g n κ σ) (e : tk σ σ') (r : okR σ') (hw : σ' 6 0 = -1) : IN A B s g n (su κ 1 2 (σ' 4 0)) σ' := by
  obtain ⟨h1, h2, h3, h4, h5, h6, h7, h8⟩ := h
  have e' := tk_kp e
  have k : kp [1] κ (su κ 1 2 (σ' 4 0)) := kp.su (by decide)
  exact ⟨(h1.ck (k.mono (by simp))).cs (e'.mono (by decide)), h2.next e r hw, (h3.ck k (by decide)).cs e' (by decide), (h4.ck k (by decide)).cs e' (by decide) (by decide) (by decide) (by decide) (by decide), (h5.ck k (by simp; exact nF (by decide))).cs e' (by decide) (by decide) (by decide), (h6.ck k (fun p hp => by simp; exact nid (by decide))).cs e' (by decide), (h7.ck k (by decide)).cs e' (by decide), (h8.ck k (by decide) (by decide)).cs e' (by decide) (by decide)⟩
theorem IN.flag {A B s : Nat} {g : Gh} {n : Int32} {κ σ σ' : Sg} (h : IN A B s g n κ σ) (e' : kp [28, 30, 31, 32] σ σ') : IN A B s g n κ σ' := by
  obtain ⟨h1, h2, h3, h4, h5, h6, h7, h8⟩ := h
  exact ⟨h1.cs (e'.mono (by decide)), h2.cs e' (by decide) (by decide) (by decide) (by decide), h3.cs e' (by decide), h4.cs e' (by decide) (by decide) (by decide) (by decide) (by decide), h5.cs e' (by decide) (by decide) (by decide), h6.cs e' (by decide), h7.cs e' (by decide), h8.cs e' (by decide) (by decide)⟩
theorem IN.quant {A B s : Nat} {g : Gh} {n v : Int32} {κ σ : Sg} (h : IN A B s g n κ σ) : IN A B s g n (su κ 6 7 v) (su σ 35 0 v) := by
  obtain ⟨h1, h2, h3, h4, h5, h6, h7, h8⟩ := h
  have k : kp [6] κ (su κ 6 7 v) := kp.su (by decide)
  have e : kp [35] σ (su σ 35 0 v) := kp.su (by decide)
  refine ⟨(h1.ck (k.mono (by simp))).cs (e.mono (by decide)), (h2.ck k (by decide) (by decide)).cs e (by decide) (by decide) (by decide) (by decide), (h3.ck k (by decide)).cs e (by decide), ?_, (h5.ck k (by simp; exact nF (by decide))).cs e (by decide) (by decide) (by decide), (h6.ck k (fun p hp => by simp; exact nid (by decide))).cs e (by decide), (h7.ck k (by decide)).cs e (by decide), (h8.ck k (by decide) (by decide)).cs e (by decide) (by decide)⟩
  obtain ⟨a, b, c, d⟩ := h4
  refine ⟨?_, ?_, c.cs e (by decide) (by decide) (by decide), fun z => ?_⟩
  · rw [su_j (by decide), e 34 (by decide)]
    exact a
  · rw [su_at, su_at]
  · rw [e 34 (by decide)] at z
    obtain ⟨R, x, y, w⟩ := d z
    exact ⟨R, x, (su_j (by decide)).trans y, (vr_cs e (by decide)).trans w⟩
theorem IN.VL {A B s : Nat} {g : Gh} {n : Int32} {κ σ : Sg} {R w : Nat} (h : IN A B s g n κ σ) (hV : okV R) (h68 : κ 6 8 = nI R) (hv : vr σ = nI R) (hw : w < 2) : VL R w 0 κ σ := by
  obtain ⟨h1, h2, h3, h4, h5, h6, h7, h8⟩ := h
  obtain ⟨a, b, c⟩ := h8 R hV hv
  refine ⟨h2, h3, h68, ⟨fun j hj => ?_, fun j hj => by omega⟩, a⟩
  rcases (show w = 0 ∨ w = 1 by omega) with rfl | rfl
  · rw [show 2 * 0 + j = j by omega]
    exact b j hj
  · exact c j hj
theorem okV_u {R R' : Nat} (h : okV R) (h' : okV R') (e : nI R = nI R') : R = R' := (nI_eq (by have := h.2.1; omega) (by have := h'.2.1; omega)).mp e
theorem IN.vec {A B s : Nat} {g : Gh} {n : Int32} {κ κ' σ σ' : Sg} {R w : Nat} (h : IN A B s g n κ σ) (hV : okV R) (hv : vr σ = nI R) (hw : w < 2) (k : kp [1, 11 + w] κ κ') (e : kp [4, 6, 28, 29] σ σ') (e29 : ∀ j, ¬ (2 * w ≤ j ∧ j < 2 * w + 2) → σ' 29 j = σ 29 j) (hT : TRel κ' σ') (hTA : TA κ' σ') (hW : VW w 2 κ' σ') (hG : VG R σ') : IN A B s g n κ' σ' := by
  obtain ⟨h1, h2, h3, h4, h5, h6, h7, h8⟩ := h
  have n12 : ∀ m, m ≠ 1 → m ≠ 11 → m ≠ 12 → m ∉ [1, 11 + w] := fun m a b c => by simp; omega
  have hK : kp (SI g) κ κ' := k.mono (fun m hm => by simp at hm ⊢; omega)
  refine ⟨(h1.ck hK).cs (e.mono (by decide)), hT, hTA, (h4.ck k (n12 6 (by decide) (by decide) (by decide))).cs e (by decide) (by decide) (by decide) (by decide) (by decide), (h5.ck k (n12 _ (nF (by decide)) (nF (by decide)) (nF (by decide)))).cs e (by decide) (by decide) (by decide), (h6.ck k (fun p hp => n12 _ (nid (by decide)) (nid (by decide)) (nid (by decide)))).cs e (by decide), (h7.ck k (n12 10 (by decide) (by decide) (by decide))).cs e (by decide), fun R' hV' hv' => ?_⟩
  have hv2 : vr σ = nI R' := (vr_cs e (by decide)).symm.trans hv'
  have eR : R = R' := okV_u hV hV' (hv.symm.trans hv2)
  subst eR
  obtain ⟨a, b, c⟩ := h8 R hV hv
  refine ⟨hG, fun j hj => ?_, fun j hj => ?_⟩
  · rcases (show w = 0 ∨ w = 1 by omega) with rfl | rfl
    · have := hW.1 j hj
      rw [show 2 * 0 + j = j by omega] at this
      exact this
    · rw [k 11 (by decide), e29 j (by omega)]
      exact b j hj
  · rcases (show w = 0 ∨ w = 1 by omega) with rfl | rfl
    · rw [k 12 (by decide), e29 (2 + j) (by omega)]
      exact c j hj
    · exact hW.1 j hj
/-! ===== the end of a square ===== -/
theorem rV_29 {σ : Sg} {j : Nat} (h : j < 4) : rV σ 29 j = nI 0 := by
  rcases (show j = 0 ∨ j = 1 ∨ j = 2 ∨ j = 3 by omega) with rfl | rfl | rfl | rfl <;> rfl
theorem rD_33 {σ : Sg} {j : Nat} (h : j < 3) : rD σ 33 j = nI 128 := by
  rcases (show j = 0 ∨ j = 1 ∨ j = 2 by omega) with rfl | rfl | rfl <;> rfl
def WU (W : Nat) (mv : Int32) (σ : Sg) : Prop := (¬ σ 32 0 = 0 ∧ W = 0 ∧ mv = nI 0 ∧ σ 30 0 = nI 0 ∧ σ 31 0 = nI 0) ∨ (σ 32 0 = 0 ∧ σ 34 0 = nI 2 ∧ ∃ m, m < 2 ∧ mv = nI m ∧ W = 2 * m ∧ σ 30 0 = nI 1 ∧ σ 31 0 = nI 0) ∨ (σ 32 0 = 0 ∧ σ 34 0 = nI 3 ∧ mv = nI 0 ∧ ∃ f b, f < 2 ∧ b < 2 ∧ W = 2 * f + b ∧ W ≠ 0 ∧ σ 30 0 = nI f ∧ σ 31 0 = nI b)
def U1 (W : Nat) (σ : Sg) : Prop := ∀ j, j < 2 → σ 28 j = if 2 ≤ W then σ 29 j else nI 0
def U2 (W : Nat) (σ : Sg) : Prop := ∀ j, j < 2 → σ 28 (2 + j) = if W % 2 = 1 then σ 29 (2 + j) else nI 0
theorem WU.cs {S : List Nat} {W : Nat} {mv : Int32} {σ σ' : Sg} (h : WU W mv σ) (e : kp S σ σ') (h1 : 30 ∉ S) (h2 : 31 ∉ S) (h3 : 32 ∉ S) (h4 : 34 ∉ S) : WU W mv σ' := by
  unfold WU
  rw [e 30 h1, e 31 h2, e 32 h3, e 34 h4]
  exact h
theorem WU.lt {W : Nat} {mv : Int32} {σ : Sg} (h : WU W mv σ) : W < 4 := by
  rcases h with ⟨_, h, _⟩ | ⟨_, _, m, h1, _, h2, _⟩ | ⟨_, _, _, f, b, h1, h2, h3, _⟩ <;> omega
/-- the class ahead of the blocks of a square -/
def FI (A B s : Nat) (g : Gh) (n inn mv : Int32) (W : Nat) (κ σ : Sg) : Prop := SX A B g κ σ ∧ HD κ σ ∧ σ 32 0 = inn ∧ (κ (idF (gN g)) 0 = σ 34 0 ∧ κ (idF (gN g)) 1 = n ∧ κ (idF (gN g)) 2 = σ 40 0 + (if inn = 0 then nI 0 else nI 1) ∧ κ (idF (gN g)) 3 = σ 41 0) ∧ (inn = 0 → ∀ j, j < 3 → κ 10 j = nI 128) ∧ WU W mv σ ∧ U1 W σ ∧ U2 W σ ∧ κ 6 9 = nI W ∧ ∀ R, okV R → vr σ = nI R → VG R σ ∧ (∀ j, j < 2 → κ 11 j = if W = 0 then nI 0 else σ 29 j) ∧ ∀ j, j < 2 → κ 12 j = if W = 0 then nI 0 else σ 29 (2 + j)
theorem sqE_f (mv : Int32) (σ : Sg) : kp [24, 29, 33, 40] σ (sqE mv σ) ∧ sqE mv σ 24 0 = σ 24 0 + nI 1 ∧ sqE mv σ 40 0 = σ 40 0 + (if σ 32 0 = 0 then nI 0 else nI 1) ∧ (σ 32 0 = 0 → ∀ j, j < 3 → sqE mv σ 33 j = nI 128) ∧ (¬ σ 32 0 = 0 → ∀ j, sqE mv σ 33 j = σ 33 j) ∧ ((¬ σ 32 0 = 0 ∨ (σ 34 0 = nI 2 ∧ mv = 0)) → ∀ j, j < 4 → sqE mv σ 29 j = nI 0) ∧ (¬ (¬ σ 32 0 = 0 ∨ (σ 34 0 = nI 2 ∧ mv = 0)) → ∀ j, sqE mv σ 29 j = σ 29 j) := by
  have hx : ∀ v, kp [24, 40] σ (su (su σ 24 0 (σ 24 0 + nI 1)) 40 0 v) ∧ su (su σ 24 0 (σ 24 0 + nI 1)) 40 0 v 24 0 = σ 24 0 + nI 1 ∧ su (su σ 24 0 (σ 24 0 + nI 1)) 40 0 v 40 0 = v := fun v => ⟨(kp.su (by decide)).trans (kp.su (by decide)), rfl, rfl⟩
  unfold sqE
  by_cases h : σ 32 0 = 0
  · rw [if_pos h, if_pos h]
    obtain ⟨x1, x2, x3⟩ := hx (σ 40 0 + nI 0)
    generalize su (su σ 24 0 (σ 24 0 + nI 1)) 40 0 (σ 40 0 + nI 0) = X at x1 x2 x3
    have d1 := kp_rD X
    have d2 := kp_rV (rD X)
    by_cases h2 : σ 34 0 = nI 2
    · rw [if_pos h2]
      by_cases h3 : mv = 0
      · rw [if_pos h3]
        exact ⟨(x1.mono (by decide)).trans ((d1.mono (by decide)).trans (d2.mono (by decide))), by rw [d2 24 (by decide), d1 24 (by decide)]; exact x2, by rw [d2 40 (by decide), d1 40 (by decide)]; exact x3, fun _ j hj => by rw [d2 33 (by decide)]; exact rD_33 hj, fun z => absurd h z, fun _ j hj => rV_29 hj, fun z => absurd (Or.inr ⟨h2, h3⟩) z⟩
      · rw [if_neg h3]
        exact ⟨(x1.mono (by decide)).trans (d1.mono (by decide)), by rw [d1 24 (by decide)]; exact x2, by rw [d1 40 (by decide)]; exact x3, fun _ j hj => rD_33 hj, fun z => absurd h z, fun z => absurd z (fun y => y.elim (fun y => y h) (fun y => h3 y.2)), fun _ j => by rw [d1 29 (by decide), x1 29 (by decide)]⟩
    · rw [if_neg h2]
      exact ⟨(x1.mono (by decide)).trans (d1.mono (by decide)), by rw [d1 24 (by decide)]; exact x2, by rw [d1 40 (by decide)]; exact x3, fun _ j hj => rD_33 hj, fun z => absurd h z, fun z => absurd z (fun y => y.elim (fun y => y h) (fun y => h2 y.1)), fun _ j => by rw [d1 29 (by decide), x1 29 (by decide)]⟩
  · rw [if_neg h, if_neg h]
    obtain ⟨x1, x2, x3⟩ := hx (σ 40 0 + nI 1)
    generalize su (su σ 24 0 (σ 24 0 + nI 1)) 40 0 (σ 40 0 + nI 1) = X at x1 x2 x3
    have d2 := kp_rV X
    exact ⟨(x1.mono (by decide)).trans (d2.mono (by decide)), by rw [d2 24 (by decide)]; exact x2, by rw [d2 40 (by decide)]; exact x3, fun z => absurd z h, fun _ j => by rw [d2 33 (by decide), x1 33 (by decide)], fun _ j hj => rV_29 hj, fun z => absurd (Or.inl h) z⟩
theorem LB_SI {g : Gh} : ∀ k, k ∈ LB g → k ∈ SI g := by
  intro k hk
  simp only [SI, LB, List.mem_cons, List.not_mem_nil, or_false] at hk ⊢
  rcases hk with h | h | h | h | h | h | h | h | h <;> simp [h]
theorem nLB {g : Gh} {k : Nat} (h : k < 20) (h1 : k ∉ [1, 4, 7, 8, 9, 10]) : k ∉ LB g := by
  have a := nid (q := gN g) (p := 0) h
  have b := nid (q := gN g) (p := 1) h
  have c := nid (q := gN g) (p := 2) h
  simp only [List.mem_cons, List.not_mem_nil, or_false, not_or] at h1
  simp only [LB, List.mem_cons, List.not_mem_nil, or_false, not_or]
  exact ⟨h1.1, h1.2.1, h1.2.2.1, h1.2.2.2.1, h1.2.2.2.2.1, h1.2.2.2.2.2, fun z => a z.symm, fun z => b z.symm, fun z => c z.symm⟩
theorem idF_LB {g : Gh} {q : Nat} : idF q ∉ LB g := by
  simp only [LB, List.mem_cons, List.not_mem_nil, or_false, not_or]
  unfold idF idD
  exact ⟨by omega, by omega, by omega, by omega, by omega, by omega, by omega, by omega, by omega⟩
theorem FI.fin {A B s : Nat} {g : Gh} {n inn mv : Int32} {W : Nat} {κ0 σ0 κ σ : Sg} (h : FI A B s g n inn mv W κ0 σ0) (hb : BL A B s g inn κ0 σ0 6 κ σ) : BT A B (s + 1) g n (su κ 4 4 (κ 4 4 + nI 1)) (sqE mv σ) := by
  obtain ⟨h1, h2, h3, ⟨f0, f1, f2, f3⟩, h5, h6, h7, h8, h9, h10⟩ := h
  have hw := hb.whole h1.1.2.1
  obtain ⟨⟨b1, b2⟩, b3, b4, b5, b6, b7⟩ := hb
  obtain ⟨q1, q2, q3, q4, q5, q6, q7⟩ := sqE_f mv σ
  have k4 : kp [4] κ (su κ 4 4 (κ 4 4 + nI 1)) := kp.su (by decide)
  have e32 : σ 32 0 = inn := (b2 32 (by decide) 0).trans h3
  have e34 : σ 34 0 = σ0 34 0 := b2 34 (by decide) 0
  have K : ∀ k, k < 20 → k ∉ [1, 4, 7, 8, 9, 10] → ∀ j, su κ 4 4 (κ 4 4 + nI 1) k j = κ0 k j := fun k hk hk2 j => (k4 k (fun z => hk2 (by simp only [List.mem_singleton] at z; rw [z]; decide)) j).trans (b1 k (nLB hk hk2) j)
  have KF : ∀ j, su κ 4 4 (κ 4 4 + nI 1) (idF (gN g)) j = κ0 (idF (gN g)) j := fun j => (k4 _ (by simp only [List.mem_singleton]; exact nF (by decide)) j).trans (b1 _ idF_LB j)
  have Q : ∀ k, k ∉ [24, 29, 33, 40] → k ∉ MB → ∀ j, sqE mv σ k j = σ0 k j := fun k a b j => (q1 k a j).trans (b2 k b j)
  have m29 : ∀ j, σ 29 j = σ0 29 j := fun j => b2 29 (by decide) j
  have hz : W = 0 ↔ (¬ σ 32 0 = 0 ∨ (σ 34 0 = nI 2 ∧ mv = 0)) := by
    rw [e32, e34, ← h3]
    rcases h6 with ⟨x1, x2, x3, -⟩ | ⟨x1, x2, m, x3, x4, x5, -⟩ | ⟨x1, x2, x3, f, b, x4, x5, x6, x7, -⟩
    · exact ⟨fun _ => Or.inl x1, fun _ => x2⟩
    · constructor
      · intro z
        have : m = 0 := by omega
        exact Or.inr ⟨x2, by rw [x4, this]; rfl⟩
      · intro z
        rcases z with z | ⟨-, z⟩
        · exact absurd x1 z
        · rw [x4] at z
          have := (nI_eq (b := 0) (by omega) (by decide)).mp z
          omega
    · constructor
      · intro z; exact absurd z x7
      · intro z
        rcases z with z | ⟨z, -⟩
        · exact absurd x1 z
        · rw [x2] at z
          exact absurd z (by decide)
  have DCf : DC (su κ 4 4 (κ 4 4 + nI 1)) (sqE mv σ) := by
    by_cases e : inn = 0
    · intro p hp
      refine ⟨128, by decide, ?_, q4 (e32.trans e) p hp⟩
      rw [k4 10 (by decide), b7 e]
      exact h5 e p hp
    · intro p hp
      obtain ⟨d, a, b, c⟩ := b6 e p hp
      exact ⟨d, a, (k4 10 (by decide) p).trans b, (q5 (by rw [e32]; exact e) p).trans c⟩
  have VRf : VR (su κ 4 4 (κ 4 4 + nI 1)) (sqE mv σ) := by
    intro R hR hv
    have hv0 : vr σ0 = nI R := by
      unfold vr at hv ⊢
      rw [← Q 36 (by decide) (by decide)]
      exact hv
    obtain ⟨v1, v2, v3⟩ := h10 R hR hv0
    by_cases e : W = 0
    · have z := q6 (hz.mp e)
      refine ⟨fun j hj => ?_, fun j hj => ?_, fun j hj => ?_⟩
      · rw [z j hj]
        have : (nI 0).toInt = 0 := by decide
        rw [this]
        have := hR.1
        omega
      · rw [K 11 (by decide) (by decide), v2 j hj, if_pos e, z j (by omega)]
      · rw [K 12 (by decide) (by decide), v3 j hj, if_pos e, z (2 + j) (by omega)]
    · have z := q7 (fun y => e (hz.mpr y))
      refine ⟨fun j hj => ?_, fun j hj => ?_, fun j hj => ?_⟩
      · rw [z j, m29]
        exact v1 j hj
      · rw [K 11 (by decide) (by decide), v2 j hj, if_neg e, z j, m29]
      · rw [K 12 (by decide) (by decide), v3 j hj, if_neg e, z (2 + j), m29]
  have WYf : WY (su κ 4 4 (κ 4 4 + nI 1)) (sqE mv σ) := by
    intro h34
    rw [Q 34 (by decide) (by decide)] at h34
    have h69 : su κ 4 4 (κ 4 4 + nI 1) 6 9 = nI W := (K 6 (by decide) (by decide) 9).trans h9
    rw [h69, Q 32 (by decide) (by decide), Q 30 (by decide) (by decide), Q 31 (by decide) (by decide)]
    rcases h6 with ⟨x1, x2, x3, -⟩ | ⟨x1, x2, -⟩ | ⟨x1, x2, x3, f, b, x4, x5, x6, x7, x8, x9⟩
    · exact Or.inl ⟨x1, by rw [x2]⟩
    · rw [x2] at h34
      exact absurd h34 (by decide)
    · obtain ⟨R, r1, r2, r3⟩ := h2.2.2.2 (by rw [x2]; decide)
      obtain ⟨v1, -, -⟩ := h10 R r1 r3
      have zn := q7 (fun y => x7 (hz.mpr y))
      have r4 := r1.2.1
      have rg : ∀ j, j < 4 → -1100 ≤ (σ0 29 j).toInt ∧ (σ0 29 j).toInt ≤ 1100 := fun j hj => by
        have := v1 j hj
        omega
      have z0 : -1100 ≤ (nI 0).toInt ∧ (nI 0).toInt ≤ 1100 := by decide
      refine Or.inr ⟨x1, f, b, x4, x5, by omega, by rw [x6], x8, x9, fun ef j hj => ?_, fun eb j hj => ?_, fun j hj => ?_⟩
      · rw [Q 28 (by decide) (by decide), zn j, m29, h7 j hj, if_pos (by omega)]
      · rw [Q 28 (by decide) (by decide), zn (2 + j), m29, h8 j hj, if_pos (by omega)]
      · rw [Q 28 (by decide) (by decide)]
        rcases Nat.lt_or_ge j 2 with hj2 | hj2
        · rw [h7 j hj2]
          split
          · exact rg j hj
          · exact z0
        · obtain ⟨i, rfl⟩ : ∃ i, j = 2 + i := ⟨j - 2, by omega⟩
          rw [h8 i (by omega)]
          split
          · exact rg _ hj
          · exact z0
  refine ⟨((h1.ck (b1.mono LB_SI)).ck (k4.mono (by simp))).cs ((b2.mono (by decide)).trans (q1.mono (by decide))), (b3.ck k4 (by decide) (by decide)).cs q1 (by decide) (by decide) (by decide) (by decide), fun j hj => ?_, ?_, ?_, (hw.ck k4 (fun p hp => by simp; exact nid (by decide))).cs q1 (by decide), fun _ => ⟨DCf, VRf, WYf⟩⟩
  · by_cases e : j = 4
    · subst e
      rw [su_at, b4 4 hj]
      exact q2.symm
    · rw [su_j e, b4 j hj]
      exact (q1 (20 + j) (by simp; omega) 0).symm
  · exact (((h2.ck b1 (nLB (by decide) (by decide))).ck k4 (by decide)).cs b2 (by decide) (by decide) (by decide) (by decide) (by decide)).cs q1 (by decide) (by decide) (by decide) (by decide) (by decide)
  · refine ⟨?_, ?_, ?_, ?_⟩
    · rw [KF, Q 34 (by decide) (by decide)]; exact f0
    · rw [KF]; exact f1
    · rw [KF, q3, f2, e32, b2 40 (by decide)]
    · rw [KF, Q 41 (by decide) (by decide)]; exact f3
theorem SB_0 {A s p i : Nat} {inn : Int32} (h : ¬ inn = 0) (hz : SB A s inn 0 p i) : sqN A p i < s := by
  rcases hz with hz | ⟨_, hz | ⟨b, hb, _⟩⟩
  · exact hz
  · exact absurd hz h
  · omega
def kIn (g : Gh) (κ : Sg) : Sg := su (su (fFl (fFl κ 11 (nI 0) 2) 12 (nI 0) 2) 6 9 (nI 0)) (idF (gN g)) 2 (κ (idF (gN g)) 2 + nI 1)
theorem IN.inner {A B s : Nat} {g : Gh} {n mv : Int32} {W : Nat} {κ σ : Sg} (h : IN A B s g n κ σ) (hW : WU W mv σ) (hu1 : U1 W σ) (hu2 : U2 W σ) (hi : ¬ σ 32 0 = 0) : FI A B s g n (σ 32 0) mv W (kIn g κ) σ ∧ BL A B s g (σ 32 0) (kIn g κ) σ 0 (kIn g κ) σ ∧ kp (SI g) κ (kIn g κ) := by
  obtain ⟨h1, h2, h3, h4, ⟨f0, f1, f2, f3⟩, h6, h7, h8⟩ := h
  have e0 : W = 0 := by
    rcases hW with ⟨_, x, _⟩ | ⟨x, _⟩ | ⟨x, _⟩
    · exact x
    · exact absurd x hi
    · exact absurd x hi
  have ka : kp [11, 12] κ (fFl (fFl κ 11 (nI 0) 2) 12 (nI 0) 2) := (kp.sa (by decide)).trans (kp.sa (by decide))
  have kb : kp [6] (fFl (fFl κ 11 (nI 0) 2) 12 (nI 0) 2) (su (fFl (fFl κ 11 (nI 0) 2) 12 (nI 0) 2) 6 9 (nI 0)) := kp.su (by decide)
  have kc : kp [idF (gN g)] (su (fFl (fFl κ 11 (nI 0) 2) 12 (nI 0) 2) 6 9 (nI 0)) (kIn g κ) := kp.su (by simp)
  have nc : ∀ m, m < 20 → m ∉ [idF (gN g)] := fun m hm => by simp only [List.mem_singleton]; exact fun z => nF hm z.symm
  have nD : ∀ q p, p < 3 → idD q p ∉ [idF (gN g)] := fun q p hp => by simp only [List.mem_singleton]; unfold idD idF; omega
  have hK : kp (SI g) κ (kIn g κ) := (ka.mono (fun k hk => by simp at hk ⊢; omega)).trans ((kb.mono (fun k hk => by simp at hk ⊢; omega)).trans (kc.mono (fun k hk => by simp at hk ⊢; omega)))
  have hT : TRel (kIn g κ) σ := ((h2.ck ka (by decide) (by decide)).ck kb (by decide) (by decide)).ck kc (nc 1 (by decide)) (nc 2 (by decide))
  have hA : TA (kIn g κ) σ := ((h3.ck ka (by decide)).ck kb (by decide)).ck kc (nc 4 (by decide))
  have hD : DR A B (gN g) 9 (fun p i => sqN A p i < s) (kIn g κ) σ := ((h6.ck ka (fun p hp => by simp; exact ⟨nid (by decide), nid (by decide)⟩)).ck kb (fun p hp => by simp; exact nid (by decide))).ck kc (fun p hp => nD _ _ hp)
  have hC : DC (kIn g κ) σ := ((h7.ck ka (by decide)).ck kb (by decide)).ck kc (nc 10 (by decide))
  refine ⟨⟨h1.ck hK, ?_, rfl, ⟨?_, ?_, ?_, ?_⟩, fun z => absurd z hi, hW, hu1, hu2, ?_, fun R hR hv => ?_⟩, ⟨⟨kp.refl _ _, kp.refl _ _⟩, hT, hA, hD.mono (fun p i _ _ hz => SB_0 hi hz), fun _ => hC, fun z => absurd z hi⟩, hK⟩
  · obtain ⟨a, b, c, d⟩ := h4
    have e6 : ∀ j, j ≠ 9 → kIn g κ 6 j = κ 6 j := fun j hj => (kc 6 (nc 6 (by decide)) j).trans ((su_j hj).trans (ka 6 (by decide) j))
    refine ⟨(e6 6 (by decide)).trans a, (e6 7 (by decide)).trans b, c, fun z => ?_⟩
    obtain ⟨R, x, y, w⟩ := d z
    exact ⟨R, x, (e6 8 (by decide)).trans y, w⟩
  · exact (su_j (by decide)).trans ((kb _ (by simp; exact nF (by decide)) 0).trans ((ka _ (by simp; exact ⟨nF (by decide), nF (by decide)⟩) 0).trans f0))
  · exact (su_j (by decide)).trans ((kb _ (by simp; exact nF (by decide)) 1).trans ((ka _ (by simp; exact ⟨nF (by decide), nF (by decide)⟩) 1).trans f1))
  · rw [if_neg hi, ← f2]
    exact su_at _ _ _ _
  · exact (su_j (by decide)).trans ((kb _ (by simp; exact nF (by decide)) 3).trans ((ka _ (by simp; exact ⟨nF (by decide), nF (by decide)⟩) 3).trans f3))
  · rw [e0]
    exact (kc 6 (nc 6 (by decide)) 9).trans (su_at _ _ _ _)
  · obtain ⟨v1, v2, v3⟩ := h8 R hR hv
    refine ⟨v1, fun j hj => ?_, fun j hj => ?_⟩
    · rw [if_pos e0, kc 11 (nc 11 (by decide)), kb 11 (by decide)]
      show sa (fFl κ 11 (nI 0) 2) 12 _ 11 j = _
      rw [sa_k (by decide)]
      show sa κ 11 _ 11 j = _
      rw [sa_at, if_pos hj]
    · rw [if_pos e0, kc 12 (nc 12 (by decide)), kb 12 (by decide)]
      show sa (fFl κ 11 (nI 0) 2) 12 _ 12 j = _
      rw [sa_at, if_pos hj]
theorem fgK_10 {w j : Nat} {κ : Sg} (h : j < 3) : fgK w κ 10 j = nI 128 := by
  unfold fgK
  rw [su_k (by decide)]
  split
  · show sa (sa (sa κ 10 _) 11 _) 12 _ 10 j = _
    rw [sa_k (by decide), sa_k (by decide), sa_at, if_pos h]
  · show sa κ 10 _ 10 j = _
    rw [sa_at, if_pos h]
theorem fgK_v {w j : Nat} {κ : Sg} (h : j < 2) : fgK w κ 11 j = (if w = 0 then nI 0 else κ 11 j) ∧ fgK w κ 12 j = (if w = 0 then nI 0 else κ 12 j) := by
  unfold fgK
  rw [su_k (by decide), su_k (by decide)]
  by_cases e : w = 0
  · rw [if_pos e, if_pos e, if_pos e]
    constructor
    · show sa (sa (sa κ 10 _) 11 _) 12 _ 11 j = _
      rw [sa_k (by decide), sa_at, if_pos h]
    · show sa (sa (sa κ 10 _) 11 _) 12 _ 12 j = _
      rw [sa_at, if_pos h]
  · rw [if_neg e, if_neg e, if_neg e]
    exact ⟨sa_k (by decide), sa_k (by decide)⟩
theorem kp_fgK (w : Nat) (κ : Sg) : kp [6, 10, 11, 12] κ (fgK w κ) := fun k hk j => fgK_k (fun z => hk (by rw [z]; decide)) (fun z => hk (by rw [z]; decide)) (fun z => hk (by rw [z]; decide)) (fun z => hk (by rw [z]; decide))
theorem kp_kFs (A B s w : Nat) (g : Gh) (κ : Sg) : kp [idD (gN g) 0, idD (gN g) 1, idD (gN g) 2] (fgK w κ) (kFs A B s w g κ) := fun k hk j => by
  unfold kFs
  refine tel_k 3 (fun p hp z => hk ?_)
  rw [z]
  rcases (show p = 0 ∨ p = 1 ∨ p = 2 by omega) with rfl | rfl | rfl <;> simp
/-- a square is foretold, in the class and in the reference -/
theorem tell_DR {A B s W : Nat} {g : Gh} {S : Nat → Nat → Prop} {κ σ : Sg} (hX : SX A B g κ σ) (hO : SO σ) (h66 : κ 6 6 = σ 34 0) (h34 : σ 34 0 = nI 2 ∨ σ 34 0 = nI 3) (hW4 : W < 4) (hW : (σ 34 0 = nI 2 ∧ W % 2 = 0) ∨ (σ 34 0 = nI 3 ∧ W ≠ 0)) (h30 : σ 30 0 = ahW W) (h31 : σ 31 0 = bkW W) (hf : ¬ ahW W = 0 → ∀ j, j < 2 → fgK W κ 11 j = σ 28 j) (hb : ¬ bkW W = 0 → ∀ j, j < 2 → fgK W κ 12 j = σ 28 (2 + j)) (hr : ∀ j, j < 4 → -1100 ≤ (σ 28 j).toInt ∧ (σ 28 j).toInt ≤ 1100) (h : DR A B (gN g) 9 S κ σ) : DR A B (gN g) 9 (fun p i => S p i ∨ sqN A p i = s) (kFs A B s W g κ) (fT σ A B s) := by
  have hT : DR A B (gT g) 10 (fun _ _ => True) κ σ := by
    rcases h34 with e | e
    · exact (hX.2.2.2.1 (hO.2.1 e)).1
    · exact (hX.2.2.2.1 (hO.2.2 e).2).1
  have hG := hX.1.1.1
  have kf := kp_fgK W κ
  have nD : ∀ q p, idD q p ∉ [6, 10, 11, 12] := fun q p => by simp; exact ⟨nid (by decide), nid (by decide), nid (by decide), nid (by decide)⟩
  have hab : ahW W = 0 → ¬ bkW W = 0 := by
    rcases (show W = 0 ∨ W = 1 ∨ W = 2 ∨ W = 3 by omega) with rfl | rfl | rfl | rfl <;> decide
  unfold kFs
  refine tel_DR hX.2.1 ⟨?_, hG.2.2.2.1⟩ ⟨fun z => ⟨?_, hf z 0 (by decide), hf z 1 (by decide)⟩, fun z => ⟨hT.ck kf (fun p _ => nD _ _), hb z 0 (by decide), hb z 1 (by decide)⟩, hr⟩ h30 h31 hab (h.ck kf (fun p _ => nD _ _))
  · split
    · exact hG.2.2.2.1
    · exact hG.2.2.2.2.1
  · rw [h66]
    unfold fwK
    rcases h34 with e | e
    · rw [if_pos e, if_pos e]
      exact hT.ck kf (fun p _ => nD _ _)
    · have e2 : ¬ σ 34 0 = nI 2 := by rw [e]; decide
      rw [if_neg e2, if_neg e2]
      exact (hX.2.2.2.2 (hO.2.2 e).1).1.ck kf (fun p _ => nD _ _)
theorem kp_fT (σ : Sg) (A B s : Nat) : kp [9] σ (fT σ A B s) := kp.sa (by decide)
theorem IN.tell {A B s : Nat} {g : Gh} {n mv : Int32} {W : Nat} {κ σ : Sg} (h : IN A B s g n κ σ) (hW : WU W mv σ) (hu1 : U1 W σ) (hu2 : U2 W σ) (hi : σ 32 0 = 0) : FI A B s g n (σ 32 0) mv W (kFs A B s W g κ) (fT σ A B s) ∧ BL A B s g (σ 32 0) (kFs A B s W g κ) (fT σ A B s) 0 (kFs A B s W g κ) (fT σ A B s) ∧ kp (SI g) κ (kFs A B s W g κ) := by
  obtain ⟨h1, h2, h3, h4, ⟨f0, f1, f2, f3⟩, h6, h7, h8⟩ := h
  have hW4 := hW.lt
  have kf := kp_fgK W κ
  have kt := kp_kFs A B s W g κ
  have eT := kp_fT σ A B s
  have nD : ∀ q p, idD q p ∉ [6, 10, 11, 12] := fun q p => by simp; exact ⟨nid (by decide), nid (by decide), nid (by decide), nid (by decide)⟩
  have nt : ∀ m, m < 20 → m ∉ [idD (gN g) 0, idD (gN g) 1, idD (gN g) 2] := fun m hm => by simp; exact ⟨fun z => nid hm z.symm, fun z => nid hm z.symm, fun z => nid hm z.symm⟩
  have nF1 : idF (gN g) ∉ [6, 10, 11, 12] := by simp; exact ⟨nF (by decide), nF (by decide), nF (by decide), nF (by decide)⟩
  have nF2 : idF (gN g) ∉ [idD (gN g) 0, idD (gN g) 1, idD (gN g) 2] := by simp; unfold idF idD; omega
  have hK : kp (SI g) κ (kFs A B s W g κ) := (kf.mono (fun k hk => by simp at hk ⊢; omega)).trans (kt.mono (fun k hk => by simp at hk ⊢; omega))
  have hw2 : (σ 34 0 = nI 2 ∨ σ 34 0 = nI 3) ∧ ((σ 34 0 = nI 2 ∧ W % 2 = 0) ∨ (σ 34 0 = nI 3 ∧ W ≠ 0)) ∧ σ 30 0 = ahW W ∧ σ 31 0 = bkW W := by
    rcases hW with ⟨x1, -⟩ | ⟨x1, x2, m, x3, x4, x5, x6, x7⟩ | ⟨x1, x2, x3, f, b, x4, x5, x6, x7, x8, x9⟩
    · exact absurd hi x1
    · refine ⟨Or.inl x2, Or.inl ⟨x2, by omega⟩, ?_, ?_⟩
      · rw [x6]; unfold ahW; rw [if_neg (by omega)]
      · rw [x7]; unfold bkW; rw [if_neg (by omega)]
    · refine ⟨Or.inr x2, Or.inr ⟨x2, x7⟩, ?_, ?_⟩
      · rw [x8]; unfold ahW
        rcases (show f = 0 ∨ f = 1 by omega) with rfl | rfl
        · rw [if_pos (by omega)]
        · rw [if_neg (by omega)]
      · rw [x9]; unfold bkW
        rcases (show b = 0 ∨ b = 1 by omega) with rfl | rfl
        · rw [if_neg (by omega)]
        · rw [if_pos (by omega)]
  obtain ⟨w1, w2, w3, w4⟩ := hw2
  have h341 : ¬ σ 34 0 = nI 1 := by
    rcases w1 with e | e <;> rw [e] <;> decide
  obtain ⟨R, r1, r2, r3⟩ := h4.2.2.2 h341
  obtain ⟨v1, v2, v3⟩ := h8 R r1 r3
  have r4 := r1.2.1
  have rg : ∀ j, j < 4 → -1100 ≤ (σ 29 j).toInt ∧ (σ 29 j).toInt ≤ 1100 := fun j hj => by
    have := v1 j hj
    omega
  have z0 : -1100 ≤ (nI 0).toInt ∧ (nI 0).toInt ≤ 1100 := by decide
  have hr : ∀ j, j < 4 → -1100 ≤ (σ 28 j).toInt ∧ (σ 28 j).toInt ≤ 1100 := fun j hj => by
    rcases Nat.lt_or_ge j 2 with hj2 | hj2
    · rw [hu1 j hj2]
      split
      · exact rg j hj
      · exact z0
    · obtain ⟨i, rfl⟩ : ∃ i, j = 2 + i := ⟨j - 2, by omega⟩
      rw [hu2 i (by omega)]
      split
      · exact rg _ hj
      · exact z0
  have hf : ¬ ahW W = 0 → ∀ j, j < 2 → fgK W κ 11 j = σ 28 j := fun z j hj => by
    rw [(fgK_v hj).1, hu1 j hj, v2 j hj]
    unfold ahW at z
    have : W ≠ 1 := fun e => z (by rw [if_pos e]; rfl)
    rcases (show W = 0 ∨ W = 2 ∨ W = 3 by omega) with rfl | rfl | rfl
    · rw [if_pos rfl, if_neg (by decide)]
    · rw [if_neg (by decide), if_pos (by decide)]
    · rw [if_neg (by decide), if_pos (by decide)]
  have hb : ¬ bkW W = 0 → ∀ j, j < 2 → fgK W κ 12 j = σ 28 (2 + j) := fun z j hj => by
    rw [(fgK_v hj).2, hu2 j hj, v3 j hj]
    unfold bkW at z
    have : W % 2 = 1 := Classical.byContradiction (fun e => z (by rw [if_neg e]; rfl))
    rw [if_neg (by omega), if_pos this]
  have hD := tell_DR (s := s) (S := fun p i => sqN A p i < s) h1 h4.2.2.1 h4.1 w1 hW4 w2 w3 w4 hf hb hr h6
  have hT : TRel (kFs A B s W g κ) (fT σ A B s) := ((h2.ck kf (by decide) (by decide)).ck kt (nt 1 (by decide)) (nt 2 (by decide))).cs eT (by decide) (by decide) (by decide) (by decide)
  have hA : TA (kFs A B s W g κ) (fT σ A B s) := ((h3.ck kf (by decide)).ck kt (nt 4 (by decide))).cs eT (by decide)
  have eF : ∀ j, kFs A B s W g κ (idF (gN g)) j = κ (idF (gN g)) j := fun j => (kt _ nF2 j).trans (kf _ nF1 j)
  refine ⟨⟨(h1.ck hK).cs (eT.mono (by decide)), ?_, eT 32 (by decide) 0, ⟨?_, ?_, ?_, ?_⟩, fun z j hj => ?_, hW.cs eT (by decide) (by decide) (by decide) (by decide), ?_, ?_, ?_, fun R' hR hv => ?_⟩, ⟨⟨kp.refl _ _, kp.refl _ _⟩, hT, hA, hD.mono (fun p i _ _ hz => ?_), fun z => absurd hi z, fun _ _ => rfl⟩, hK⟩
  · obtain ⟨a, b, c, d⟩ := h4
    have e6 : ∀ j, j ≠ 9 → kFs A B s W g κ 6 j = κ 6 j := fun j hj => (kt 6 (nt 6 (by decide)) j).trans (fgK_6 hj)
    refine HD.cs ⟨(e6 6 (by decide)).trans a, (e6 7 (by decide)).trans b, c, fun z => ?_⟩ eT (by decide) (by decide) (by decide) (by decide) (by decide)
    obtain ⟨R, x, y, w⟩ := d z
    exact ⟨R, x, (e6 8 (by decide)).trans y, w⟩
  · rw [eF, eT 34 (by decide)]; exact f0
  · rw [eF]; exact f1
  · rw [eF, eT 40 (by decide), if_pos hi, f2]
    exact (Int32.add_zero _).symm
  · rw [eF, eT 41 (by decide)]; exact f3
  · rw [kt 10 (nt 10 (by decide))]
    exact fgK_10 hj
  · intro j hj
    rw [eT 28 (by decide), eT 29 (by decide)]
    exact hu1 j hj
  · intro j hj
    rw [eT 28 (by decide), eT 29 (by decide)]
    exact hu2 j hj
  · rw [kt 6 (nt 6 (by decide))]
    exact su_at _ _ _ _
  · have hv2 : vr σ = nI R' := (vr_cs eT (by decide)).symm.trans hv
    obtain ⟨v1, v2, v3⟩ := h8 R' hR hv2
    refine ⟨fun j hj => by rw [eT 29 (by decide)]; exact v1 j hj, fun j hj => ?_, fun j hj => ?_⟩
    · rw [kt 11 (nt 11 (by decide)), (fgK_v hj).1, v2 j hj, eT 29 (by decide)]
    · rw [kt 12 (nt 12 (by decide)), (fgK_v hj).2, v3 j hj, eT 29 (by decide)]
  · rcases hz with hz | ⟨hz, -⟩
    · exact Or.inl hz
    · exact Or.inr hz
/-- a row begins: dcs and vectors are forgotten -/
def kRow (A s : Nat) (κ : Sg) : Sg := if s % A = 0 then fFl (fFl (fFl κ 10 (nI 128) 3) 11 (nI 0) 2) 12 (nI 0) 2 else κ
theorem BT.row {A B s : Nat} {g : Gh} {n : Int32} {κ σ : Sg} (h : BT A B s g n κ σ) : IN A B s g n (kRow A s κ) (fPa A s σ) ∧ kp (SI g) κ (kRow A s κ) := by
  obtain ⟨h1, h2, h3, h4, h5, h6, h7⟩ := h
  unfold kRow fPa
  by_cases e : s % A = 0
  · rw [if_pos e, if_pos e]
    have ka : kp [10, 11, 12] κ (fFl (fFl (fFl κ 10 (nI 128) 3) 11 (nI 0) 2) 12 (nI 0) 2) := ((kp.sa (by decide)).trans (kp.sa (by decide))).trans (kp.sa (by decide))
    have hK : kp (SI g) κ (fFl (fFl (fFl κ 10 (nI 128) 3) 11 (nI 0) 2) 12 (nI 0) 2) := ka.mono (fun k hk => by simp at hk ⊢; omega)
    have d1 := kp_rD σ
    have d2 := kp_rV (rD σ)
    have eB : kp [29, 33] σ (bg σ) := (d1.mono (by decide)).trans (d2.mono (by decide))
    refine ⟨⟨(h1.ck hK).cs (eB.mono (by decide)), (h2.ck ka (by decide) (by decide)).cs eB (by decide) (by decide) (by decide) (by decide), (h3.ck ka (by decide)).cs eB (by decide), (h4.ck ka (by decide)).cs eB (by decide) (by decide) (by decide) (by decide) (by decide), (h5.ck ka (by simp; exact ⟨nF (by decide), nF (by decide), nF (by decide)⟩)).cs eB (by decide) (by decide) (by decide), (h6.ck ka (fun p hp => by simp; exact ⟨nid (by decide), nid (by decide), nid (by decide)⟩)).cs eB (by decide), fun p hp => ⟨128, by decide, ?_, ?_⟩, fun R hR hv => ⟨fun j hj => ?_, fun j hj => ?_, fun j hj => ?_⟩⟩, hK⟩
    · show sa (sa (sa κ 10 _) 11 _) 12 _ 10 p = _
      rw [sa_k (by decide), sa_k (by decide), sa_at, if_pos hp]
    · show rV (rD σ) 33 p = _
      rw [d2 33 (by decide)]
      exact rD_33 hp
    · have : bg σ 29 j = nI 0 := rV_29 hj
      rw [this]
      have : (nI 0).toInt = 0 := by decide
      rw [this]
      have := hR.1
      omega
    · have : bg σ 29 j = nI 0 := rV_29 (by omega)
      rw [this]
      show sa (sa (sa κ 10 _) 11 _) 12 _ 11 j = _
      rw [sa_k (by decide), sa_at, if_pos hj]
    · have : bg σ 29 (2 + j) = nI 0 := rV_29 (by omega)
      rw [this]
      show sa (sa (sa κ 10 _) 11 _) 12 _ 12 j = _
      rw [sa_at, if_pos hj]
  · rw [if_neg e, if_neg e]
    obtain ⟨a, b, c⟩ := h7 e
    exact ⟨⟨h1, h2, h3, h4, h5, h6, a, b⟩, kp.refl _ _⟩
