/-! ===== planes ===== -/
def okP (g : Gh) (κ : Sg) (q p A B : Nat) : Prop := κ (idL q p) 0 = nI (szN p) ∧ κ (idL q p) 1 = nI (wdN A p) ∧ κ (idL q p) 2 = nI (wdN B p) ∧ wdN A p * wdN B p ≤ gL g (idD q p) ∧ gL g (idD q p) ≤ 4096
abbrev okAB (A B : Nat) : Prop := (1 ≤ A ∧ A ≤ 4) ∧ (1 ≤ B ∧ B ≤ 4)
theorem wd_r {A p : Nat} (h : 1 ≤ A ∧ A ≤ 4) : 8 ≤ wdN A p ∧ wdN A p ≤ 64 := by unfold wdN; split <;> omega
theorem ix_lt {w h x y : Nat} (hx : x < w) (hy : y < h) : w * y + x < w * h := by
  have : w * (y + 1) ≤ w * h := Nat.mul_le_mul_left w hy
  rw [Nat.mul_add, Nat.mul_one] at this
  omega
theorem id_LD (q p q2 p2 : Nat) (hp : p < 3) (hp2 : p2 < 3) : idL q p ≠ idD q2 p2 := by unfold idL idD; omega

theorem l_copyFrom {s0 : State} {l : Launch} {c : Cx} {g : Gh} {κ : Sg} {q q2 p A B : Nat} (hq : q < 3 + gC g) (hq2 : q2 < 3 + gC g) (hp : p < 3) (hA : okAB A B) (h1 : okP g κ q p A B) (h2 : wdN A p * wdN B p ≤ gL g (idD q2 p)) : KC s0 l M_L_copyFrom c [.ref (gA g (idL q p)), .ref (gA g (idL q2 p))] g κ (fun o g' κ' => o = .inl none ∧ g' = g ∧ κ' = sa κ (idD q p) (fun j => if j < wdN A p * wdN B p then κ (idD q2 p) j else κ (idD q p) j)) := by
  refine k_in (by decide) rfl rfl (Nat.le_of_ble_eq_true rfl) (fun hB => ?_)
  have hr1 := wd_r (p := p) hA.1
  have hr2 := wd_r (p := p) hA.2
  have hm : wdN A p * wdN B p ≤ 4096 := Nat.mul_le_mul hr1.2 hr2.2
  refine k_aload_n d_L_copyFrom_0 rfl rfl ?_
  refine k_getR d_L_copyFrom_1 fL_9 rfl (al_L hq2 hp) (kd_L q2 hp) (pt_L g q2 hp) ?_
  refine k_iconst (v := nI 0) d_L_copyFrom_4 (by decide) ?_
  refine k_aload_n d_L_copyFrom_5 rfl rfl ?_
  refine k_getR d_L_copyFrom_6 fL_9 rfl (al_L hq hp) (kd_L q hp) (pt_L g q hp) ?_
  refine k_iconst (v := nI 0) d_L_copyFrom_9 (by decide) ?_
  refine k_aload_n d_L_copyFrom_10 rfl rfl ?_
  refine k_getE d_L_copyFrom_11 fL_19 rfl (al_L hq hp) (kd_L q hp) h1.2.1 ?_
  refine k_aload_n d_L_copyFrom_14 rfl rfl ?_
  refine k_getE d_L_copyFrom_15 fL_22 rfl (al_L hq hp) (kd_L q hp) h1.2.2.1 ?_
  refine k_imulN d_L_copyFrom_18  ?_
  refine k_copy d_L_copyFrom_19 lL_25 w_cp1 w_cp2 w_cp3 (al_D hq2 hp) (al_D hq hp) (kd_D q2 hp) (kd_D q hp) (by decide) (by decide) (nI_pos (by omega)) (by rw [nI_clamp (show wdN A p * wdN B p < 2 ^ 31 by omega), ln_D g q2 hp]; show 0 + _ ≤ _; omega) (by rw [nI_clamp (show wdN A p * wdN B p < 2 ^ 31 by omega), ln_D g q hp]; show 0 + _ ≤ _; have := h1.2.2.2.1; omega) (Nat.le_of_ble_eq_true rfl) (by decide) ?_
  refine k_vret d_L_copyFrom_22 rfl ?_
  refine ⟨rfl, rfl, sa_ext (fun j => ?_)⟩
  rw [nI_clamp (show wdN A p * wdN B p < 2 ^ 31 by omega), nI_clamp (show 0 < 2 ^ 31 by decide)]
  by_cases h : j < wdN A p * wdN B p
  · rw [if_pos h, if_pos (by omega), Nat.sub_zero, Nat.zero_add]
  · rw [if_neg h, if_neg (by omega)]

def cDo (κ : Sg) (q p A B : Nat) (x y : Int32) : Int32 := if x < 0 then -1 else if nI (wdN A p) ≤ x then -1 else if y < 0 then -1 else if y < nI (wdN B p) then κ (idD q p) (y.toNatClampNeg * wdN A p + x.toNatClampNeg) else -1
theorem l_dotOrNone {s0 : State} {l : Launch} {c : Cx} {g : Gh} {κ : Sg} {q p A B : Nat} {x y : Int32} (hq : q < 3 + gC g) (hp : p < 3) (hA : okAB A B) (h1 : okP g κ q p A B) : KC s0 l M_L_dotOrNone c [.ref (gA g (idL q p)), .int x, .int y] g κ (fun o g' κ' => o = .inl (some (.int (cDo κ q p A B x y))) ∧ g' = g ∧ κ' = κ) := by
  refine k_in (by decide) rfl rfl (Nat.le_of_ble_eq_true rfl) (fun hB => ?_)
  have hr1 := wd_r (p := p) hA.1
  have hr2 := wd_r (p := p) hA.2
  have hl := h1.2.2.2
  unfold cDo
  refine k_iload_n d_L_dotOrNone_0 rfl rfl ?_
  refine k_if_lt (tgt := 24) d_L_dotOrNone_1 (by decide) (fun c_1 => ?_) (fun c_1 => ?_)
  · skip
    refine k_iconst (v := (-1)) d_L_dotOrNone_24 (by decide) ?_
    refine k_iret d_L_dotOrNone_25 rfl rfl ?_
    refine ⟨?_, rfl, rfl⟩
    first
      | rw [if_pos c_1]
      | rw [if_neg c_1, if_pos c_9]
      | rw [if_neg c_1, if_neg c_9, if_pos c_13]
      | rw [if_neg c_1, if_neg c_9, if_neg c_13, if_neg c_21]
  · skip
    refine k_iload_n d_L_dotOrNone_4 rfl rfl ?_
    refine k_aload_n d_L_dotOrNone_5 rfl rfl ?_
    refine k_getE d_L_dotOrNone_6 fL_19 rfl (al_L hq hp) (kd_L q hp) h1.2.1 ?_
    refine k_icmp_ge (tgt := 24) d_L_dotOrNone_9 (by decide) (fun c_9 => ?_) (fun c_9 => ?_)
    · skip
      refine k_iconst (v := (-1)) d_L_dotOrNone_24 (by decide) ?_
      refine k_iret d_L_dotOrNone_25 rfl rfl ?_
      refine ⟨?_, rfl, rfl⟩
      first
        | rw [if_pos c_1]
        | rw [if_neg c_1, if_pos c_9]
        | rw [if_neg c_1, if_neg c_9, if_pos c_13]
        | rw [if_neg c_1, if_neg c_9, if_neg c_13, if_neg c_21]
    · skip
      refine k_iload_n d_L_dotOrNone_12 rfl rfl ?_
      refine k_if_lt (tgt := 24) d_L_dotOrNone_13 (by decide) (fun c_13 => ?_) (fun c_13 => ?_)
      · skip
        refine k_iconst (v := (-1)) d_L_dotOrNone_24 (by decide) ?_
        refine k_iret d_L_dotOrNone_25 rfl rfl ?_
        refine ⟨?_, rfl, rfl⟩
        first
          | rw [if_pos c_1]
          | rw [if_neg c_1, if_pos c_9]
          | rw [if_neg c_1, if_neg c_9, if_pos c_13]
          | rw [if_neg c_1, if_neg c_9, if_neg c_13, if_neg c_21]
      · skip
        refine k_iload_n d_L_dotOrNone_16 rfl rfl ?_
        refine k_aload_n d_L_dotOrNone_17 rfl rfl ?_
        refine k_getE d_L_dotOrNone_18 fL_22 rfl (al_L hq hp) (kd_L q hp) h1.2.2.1 ?_
        refine k_icmp_lt (tgt := 26) d_L_dotOrNone_21 (by decide) (fun c_21 => ?_) (fun c_21 => ?_)
        · skip
          rw [if_neg c_1, if_neg c_9, if_neg c_13, if_pos c_21]
          obtain ⟨X, hX, rfl⟩ := nI_of c_1
          obtain ⟨Y, hY, rfl⟩ := nI_of c_13
          have hX2 : X < wdN A p := Nat.lt_of_not_le (fun h9 => c_9 (nI_le h9 hX))
          have hY2 : Y < wdN B p := (nI_ltI hY (by omega)).mp c_21
          have hix := ix_lt hX2 hY2
          rw [Nat.mul_comm] at hix
          rw [nI_clamp hX, nI_clamp hY]
          refine k_aload_n d_L_dotOrNone_26 rfl rfl ?_
          refine k_getR d_L_dotOrNone_27 fL_9 rfl (al_L hq hp) (kd_L q hp) (pt_L g q hp) ?_
          refine k_iload_n d_L_dotOrNone_30 rfl rfl ?_
          refine k_aload_n d_L_dotOrNone_31 rfl rfl ?_
          refine k_getE d_L_dotOrNone_32 fL_19 rfl (al_L hq hp) (kd_L q hp) h1.2.1 ?_
          refine k_imulN d_L_dotOrNone_35  ?_
          refine k_iload_n d_L_dotOrNone_36 rfl rfl ?_
          refine k_iaddN d_L_dotOrNone_37  ?_
          refine k_iaload d_L_dotOrNone_38 (al_D hq hp) (kd_D q hp) (show vp_in _ (lnI g (idD q p)) by rw [ln_D g q hp]; exact vp_in_nI (show Y * wdN A p + X < _ by omega) (by omega)) ?_
          refine k_iret d_L_dotOrNone_39 rfl rfl ?_
          rw [nI_clamp (by omega)]
          exact ⟨rfl, rfl, rfl⟩
        · skip
          refine k_iconst (v := (-1)) d_L_dotOrNone_24 (by decide) ?_
          refine k_iret d_L_dotOrNone_25 rfl rfl ?_
          refine ⟨?_, rfl, rfl⟩
          first
            | rw [if_pos c_1]
            | rw [if_neg c_1, if_pos c_9]
            | rw [if_neg c_1, if_neg c_9, if_pos c_13]
            | rw [if_neg c_1, if_neg c_9, if_neg c_13, if_neg c_21]

theorem l_numberedTotal {s0 : State} {l : Launch} {c : Cx} {g : Gh} {κ : Sg} {q p A B : Nat} (hq : q < 3 + gC g) (hp : p < 3) (hA : okAB A B) (h1 : okP g κ q p A B) : KC s0 l M_L_numberedTotal c [.ref (gA g (idL q p))] g κ (fun o g' κ' => o = .inl (some (.int (sg (nI 0) (fun i => κ (idD q p) i * nI (i + 1)) (wdN A p * wdN B p)))) ∧ g' = g ∧ κ' = κ) := by
  refine k_in (by decide) rfl rfl (Nat.le_of_ble_eq_true rfl) (fun hB => ?_)
  have hr1 := wd_r (p := p) hA.1
  have hr2 := wd_r (p := p) hA.2
  have hl := h1.2.2.2
  have hm : wdN A p * wdN B p ≤ 4096 := Nat.mul_le_mul hr1.2 hr2.2
  refine k_iconst (v := nI 0) d_L_numberedTotal_0 (by decide) ?_
  refine k_istore_n d_L_numberedTotal_1 rfl (Nat.le_of_ble_eq_true rfl) ?_
  refine k_iconst (v := nI 0) d_L_numberedTotal_2 (by decide) ?_
  refine k_istore_n d_L_numberedTotal_3 rfl (Nat.le_of_ble_eq_true rfl) ?_
  refine k_loop (wdN A p * wdN B p) (fun _ => κ) (fun i => [some (.ref (gA g (idL q p))), some (.int (sg (nI 0) (fun i => κ (idD q p) i * nI (i + 1)) i)), some (.int (nI i))]) (fun i hi ih => ?_) ?_ 0 (Nat.zero_le _)
  · skip
    refine k_iload_n d_L_numberedTotal_4 rfl rfl ?_
    refine k_aload_n d_L_numberedTotal_5 rfl rfl ?_
    refine k_getE d_L_numberedTotal_6 fL_19 rfl (al_L hq hp) (kd_L q hp) h1.2.1 ?_
    refine k_aload_n d_L_numberedTotal_9 rfl rfl ?_
    refine k_getE d_L_numberedTotal_10 fL_22 rfl (al_L hq hp) (kd_L q hp) h1.2.2.1 ?_
    refine k_imulN d_L_numberedTotal_13  ?_
    refine k_icmp_ge (tgt := 36) d_L_numberedTotal_14 (by decide) (fun c_14 => ?_) (fun c_14 => ?_)
    · exact absurd ((nI_leI (by omega) (by omega)).mp c_14) (by omega)
    · skip
      refine k_iload_n d_L_numberedTotal_17 rfl rfl ?_
      refine k_aload_n d_L_numberedTotal_18 rfl rfl ?_
      refine k_getR d_L_numberedTotal_19 fL_9 rfl (al_L hq hp) (kd_L q hp) (pt_L g q hp) ?_
      refine k_iload_n d_L_numberedTotal_22 rfl rfl ?_
      refine k_iaload d_L_numberedTotal_23 (al_D hq hp) (kd_D q hp) (show vp_in _ (lnI g (idD q p)) by rw [ln_D g q hp]; exact vp_in_nI (show i < _ by omega) (by omega)) ?_
      refine k_iload_n d_L_numberedTotal_24 rfl rfl ?_
      refine k_iconst (v := nI 1) d_L_numberedTotal_25 (by decide) ?_
      refine k_iaddN d_L_numberedTotal_26  ?_
      refine k_imul d_L_numberedTotal_27 ?_
      refine k_iadd d_L_numberedTotal_28 ?_
      refine k_istore_n d_L_numberedTotal_29 rfl (Nat.le_of_ble_eq_true rfl) ?_
      first | refine k_iinc1 d_L_numberedTotal_30 rfl ?_ | refine k_iinc d_L_numberedTotal_30 rfl ?_
      refine k_goto (tgt := 4) d_L_numberedTotal_33 (by decide) ?_
      rw [nI_clamp (by omega)]
      exact ih
  · skip
    refine k_iload_n d_L_numberedTotal_4 rfl rfl ?_
    refine k_aload_n d_L_numberedTotal_5 rfl rfl ?_
    refine k_getE d_L_numberedTotal_6 fL_19 rfl (al_L hq hp) (kd_L q hp) h1.2.1 ?_
    refine k_aload_n d_L_numberedTotal_9 rfl rfl ?_
    refine k_getE d_L_numberedTotal_10 fL_22 rfl (al_L hq hp) (kd_L q hp) h1.2.2.1 ?_
    refine k_imulN d_L_numberedTotal_13  ?_
    refine k_icmp_ge (tgt := 36) d_L_numberedTotal_14 (by decide) (fun c_14 => ?_) (fun c_14 => ?_)
    · skip
      refine k_iload_n d_L_numberedTotal_36 rfl rfl ?_
      refine k_iret d_L_numberedTotal_37 rfl rfl ?_
      exact ⟨rfl, rfl, rfl⟩
    · exact absurd (nI_le (Nat.le_refl _) (by omega)) c_14

abbrev inW (w x0 y0 i : Nat) : Prop := (x0 ≤ i % w ∧ i % w < x0 + 8) ∧ (y0 ≤ i / w ∧ i / w < y0 + 8)
def cDv (κ : Sg) (D w x0 y0 : Nat) (inn : Int32) (i : Nat) : Int32 := hel ((if inn = 0 then κ D i else nI 0) + κ 9 (8 * (i / w - y0) + (i % w - x0))) (nI 0) (nI 255)
def cDr (κ : Sg) (D w x0 y0 : Nat) (inn : Int32) (y x : Nat) : Sg := sa κ D (fun i => if inW w x0 y0 i ∧ (i / w < y0 + y ∨ (i / w = y0 + y ∧ i % w < x0 + x)) then cDv κ D w x0 y0 inn i else κ D i)
def cDraw (κ : Sg) (D w x0 y0 : Nat) (inn : Int32) : Sg := sa κ D (fun i => if inW w x0 y0 i then cDv κ D w x0 y0 inn i else κ D i)
theorem cDr_0 {κ : Sg} {D w x0 y0 : Nat} {inn : Int32} : cDr κ D w x0 y0 inn 0 0 = κ := sa_self (fun i => by
  rw [if_neg]
  rintro ⟨a, b⟩
  unfold inW at a
  omega)
theorem cDr_8 {κ : Sg} {D w x0 y0 y : Nat} {inn : Int32} : cDr κ D w x0 y0 inn y 8 = cDr κ D w x0 y0 inn (y + 1) 0 := sa_ext (fun i => by
  by_cases h : inW w x0 y0 i ∧ (i / w < y0 + y ∨ (i / w = y0 + y ∧ i % w < x0 + 8))
  · rw [if_pos h, if_pos ⟨h.1, by have := h.2; omega⟩]
  · rw [if_neg h, if_neg (fun z => h ⟨z.1, by have h1 := z.2; have h2 := z.1.1; omega⟩)])
theorem cDr_e {κ : Sg} {D w x0 y0 : Nat} {inn : Int32} : cDr κ D w x0 y0 inn 8 0 = cDraw κ D w x0 y0 inn := sa_ext (fun i => by
  by_cases h : inW w x0 y0 i
  · rw [if_pos ⟨h, Or.inl h.2.2⟩, if_pos h]
  · rw [if_neg (fun z => h z.1), if_neg h])
theorem dm {w x y i : Nat} (hx : x < w) : i = y * w + x ↔ i / w = y ∧ i % w = x := by
  constructor
  · rintro rfl
    rw [Nat.mul_comm, Nat.mul_add_div (by omega), Nat.div_eq_of_lt hx, Nat.mul_add_mod, Nat.mod_eq_of_lt hx]
    exact ⟨rfl, rfl⟩
  · rintro ⟨a, b⟩
    have h := Nat.div_add_mod i w
    rw [a, b, Nat.mul_comm] at h
    exact h.symm
theorem cDr_s {κ : Sg} {D w x0 y0 y x : Nat} {inn : Int32} (hw : x0 + 8 ≤ w) (hx : x < 8) (hy : y < 8) : su (cDr κ D w x0 y0 inn y x) D ((y0 + y) * w + x0 + x) (hel ((if inn = 0 then κ D ((y0 + y) * w + x0 + x) else nI 0) + κ 9 (8 * y + x)) (nI 0) (nI 255)) = cDr κ D w x0 y0 inn y (x + 1) := su_sa (fun i => by
  have e0 : (y0 + y) * w + x0 + x = (y0 + y) * w + (x0 + x) := by omega
  rw [e0]
  have hi := dm (i := i) (y := y0 + y) (show x0 + x < w by omega)
  by_cases e : i = (y0 + y) * w + (x0 + x)
  · obtain ⟨a, b⟩ := hi.mp e
    rw [if_pos e, if_pos ⟨⟨by omega, by omega⟩, Or.inr ⟨a, by omega⟩⟩, ← e]
    unfold cDv
    have e1 : i / w - y0 = y := by omega
    have e2 : i % w - x0 = x := by omega
    rw [e1, e2]
  · rw [if_neg e]
    have hne : ¬ (i / w = y0 + y ∧ i % w = x0 + x) := fun z => e (hi.mpr z)
    by_cases e4 : inW w x0 y0 i ∧ (i / w < y0 + y ∨ (i / w = y0 + y ∧ i % w < x0 + x))
    · rw [if_pos e4, if_pos ⟨e4.1, by have := e4.2; omega⟩]
    · rw [if_neg e4, if_neg (fun z => e4 ⟨z.1, by have h1 := z.2; omega⟩)])
theorem cDr_k {κ : Sg} {D w x0 y0 y x k j : Nat} {inn : Int32} (h : k ≠ D) : cDr κ D w x0 y0 inn y x k j = κ k j := sa_k h
section DR
variable {s0 : State} {l : Launch} {c : Cx} {hB : Mem} {g : Gh} {κ : Sg} {P : Out → Gh → Sg → Prop} {q p A B x0 y0 y : Nat} {inn : Int32}
theorem l_dr_x (hq : q < 3 + gC g) (hp : p < 3) (hA : okAB A B) (h1 : okP g κ q p A B) (hx0 : x0 + 8 ≤ wdN A p) (hy0 : y0 + 8 ≤ wdN B p) (hy : y < 8) (k : KQ s0 l M_L_draw c hB 90 [some (.ref (gA g (idL q p))), some (.ref (gA g 9)), some (.int (nI x0)), some (.int (nI y0)), some (.int inn), some (.int (nI y)), none, none, none] [] g (cDr κ (idD q p) (wdN A p) x0 y0 inn (y + 1) 0) P) : KQ s0 l M_L_draw c hB 26 [some (.ref (gA g (idL q p))), some (.ref (gA g 9)), some (.int (nI x0)), some (.int (nI y0)), some (.int inn), some (.int (nI y)), some (.int (nI ((y0 + y) * wdN A p + x0))), some (.int (nI 0)), none] [] g (cDr κ (idD q p) (wdN A p) x0 y0 inn y 0) P := by
  have hr1 := wd_r (p := p) hA.1
  have hr2 := wd_r (p := p) hA.2
  have hl := h1.2.2.2
  have h9 : 9 ≠ idD q p := by unfold idD; omega
  refine k_loop 8 (fun x => cDr κ (idD q p) (wdN A p) x0 y0 inn y x) (fun x => [some (.ref (gA g (idL q p))), some (.ref (gA g 9)), some (.int (nI x0)), some (.int (nI y0)), some (.int inn), some (.int (nI y)), some (.int (nI ((y0 + y) * wdN A p + x0))), some (.int (nI x)), none]) (fun x hx ih => ?_) ?_ 0 (Nat.zero_le _)
  · have hix := ix_lt (show x0 + x < wdN A p by omega) (show y0 + y < wdN B p by omega)
    rw [Nat.mul_comm] at hix
    have hst := cDr_s (κ := κ) (D := idD q p) (y0 := y0) (y := y) (x := x) (inn := inn) hx0 hx hy
    have e9 : cDr κ (idD q p) (wdN A p) x0 y0 inn y x (idD q p) ((y0 + y) * wdN A p + x0 + x) = κ (idD q p) ((y0 + y) * wdN A p + x0 + x) := (sa_at _ _ _ _).trans (if_neg (by
      rintro ⟨a, b⟩
      have := (dm (i := (y0 + y) * wdN A p + x0 + x) (y := y0 + y) (show x0 + x < wdN A p by omega)).mp (by omega)
      omega))
    refine k_iload d_L_draw_26 rfl ?_
    refine k_bipush (v := nI 8) d_L_draw_28 (by decide) ?_
    refine k_icmp_ge (tgt := 90) d_L_draw_30 (by decide) (fun c_30 => ?_) (fun c_30 => ?_)
    · exact absurd ((nI_leI (by omega) (by omega)).mp c_30) (by omega)
    · skip
      refine k_iload d_L_draw_33 rfl ?_
      refine k_if_eq (tgt := 42) d_L_draw_35 (by decide) (fun c_35 => ?_) (fun c_35 => ?_)
      · skip
        refine k_aload_n d_L_draw_42 rfl rfl ?_
        refine k_getR d_L_draw_43 fL_9 rfl (al_L hq hp) (kd_L q hp) (pt_L g q hp) ?_
        refine k_iload d_L_draw_46 rfl ?_
        refine k_iload d_L_draw_48 rfl ?_
        refine k_iaddN d_L_draw_50  ?_
        refine k_iaload d_L_draw_51 (al_D hq hp) (kd_D q hp) (show vp_in _ (lnI g (idD q p)) by rw [ln_D g q hp]; exact vp_in_nI (show (y0 + y) * wdN A p + x0 + x < _ by omega) (by omega)) ?_
        refine k_istore d_L_draw_52 (Nat.le_of_ble_eq_true rfl) ?_
        refine k_aload_n d_L_draw_54 rfl rfl ?_
        refine k_getR d_L_draw_55 fL_9 rfl (al_L hq hp) (kd_L q hp) (pt_L g q hp) ?_
        refine k_iload d_L_draw_58 rfl ?_
        refine k_iload d_L_draw_60 rfl ?_
        refine k_iaddN d_L_draw_62  ?_
        refine k_iload d_L_draw_63 rfl ?_
        refine k_aload_n d_L_draw_65 rfl rfl ?_
        refine k_bipush (v := nI 8) d_L_draw_66 (by decide) ?_
        refine k_iload d_L_draw_68 rfl ?_
        refine k_imulN d_L_draw_70  ?_
        refine k_iload d_L_draw_71 rfl ?_
        refine k_iaddN d_L_draw_73  ?_
        refine k_iaload d_L_draw_74 (al_0 (by decide)) rfl (show vp_in _ 64 from vp_in_nI (show 8 * y + x < 64 by omega) (by decide)) ?_
        refine k_iadd d_L_draw_75 ?_
        refine k_iconst (v := nI 0) d_L_draw_76 (by decide) ?_
        refine k_sipush (v := nI 255) d_L_draw_77 (by decide) ?_
        refine k_held d_L_draw_80 nL_35 (Nat.le_of_ble_eq_true rfl) (by decide) ?_
        refine k_iastore d_L_draw_83 (al_D hq hp) (kd_D q hp) (show vp_in _ (lnI g (idD q p)) by rw [ln_D g q hp]; exact vp_in_nI (show (y0 + y) * wdN A p + x0 + x < _ by omega) (by omega)) ?_
        first | refine k_iinc1 d_L_draw_84 rfl ?_ | refine k_iinc d_L_draw_84 rfl ?_
        refine k_goto (tgt := 26) d_L_draw_87 (by decide) ?_
        rw [nI_clamp (show (y0 + y) * wdN A p + x0 + x < 2 ^ 31 by omega), nI_clamp (show 8 * y + x < 2 ^ 31 by omega), cDr_k h9]
        first
          | (rw [if_pos c_35] at hst; rw [e9, hst]; exact k_forget 8 ih)
          | (rw [if_neg c_35] at hst; rw [hst]; exact k_forget 8 ih)
      · skip
        refine k_iconst (v := nI 0) d_L_draw_38 (by decide) ?_
        refine k_goto (tgt := 52) d_L_draw_39 (by decide) ?_
        refine k_istore d_L_draw_52 (Nat.le_of_ble_eq_true rfl) ?_
        refine k_aload_n d_L_draw_54 rfl rfl ?_
        refine k_getR d_L_draw_55 fL_9 rfl (al_L hq hp) (kd_L q hp) (pt_L g q hp) ?_
        refine k_iload d_L_draw_58 rfl ?_
        refine k_iload d_L_draw_60 rfl ?_
        refine k_iaddN d_L_draw_62  ?_
        refine k_iload d_L_draw_63 rfl ?_
        refine k_aload_n d_L_draw_65 rfl rfl ?_
        refine k_bipush (v := nI 8) d_L_draw_66 (by decide) ?_
        refine k_iload d_L_draw_68 rfl ?_
        refine k_imulN d_L_draw_70  ?_
        refine k_iload d_L_draw_71 rfl ?_
        refine k_iaddN d_L_draw_73  ?_
        refine k_iaload d_L_draw_74 (al_0 (by decide)) rfl (show vp_in _ 64 from vp_in_nI (show 8 * y + x < 64 by omega) (by decide)) ?_
        refine k_iadd d_L_draw_75 ?_
        refine k_iconst (v := nI 0) d_L_draw_76 (by decide) ?_
        refine k_sipush (v := nI 255) d_L_draw_77 (by decide) ?_
        refine k_held d_L_draw_80 nL_35 (Nat.le_of_ble_eq_true rfl) (by decide) ?_
        refine k_iastore d_L_draw_83 (al_D hq hp) (kd_D q hp) (show vp_in _ (lnI g (idD q p)) by rw [ln_D g q hp]; exact vp_in_nI (show (y0 + y) * wdN A p + x0 + x < _ by omega) (by omega)) ?_
        first | refine k_iinc1 d_L_draw_84 rfl ?_ | refine k_iinc d_L_draw_84 rfl ?_
        refine k_goto (tgt := 26) d_L_draw_87 (by decide) ?_
        rw [nI_clamp (show (y0 + y) * wdN A p + x0 + x < 2 ^ 31 by omega), nI_clamp (show 8 * y + x < 2 ^ 31 by omega), cDr_k h9]
        first
          | (rw [if_pos c_35] at hst; rw [e9, hst]; exact k_forget 8 ih)
          | (rw [if_neg c_35] at hst; rw [hst]; exact k_forget 8 ih)
  · skip
    refine k_iload d_L_draw_26 rfl ?_
    refine k_bipush (v := nI 8) d_L_draw_28 (by decide) ?_
    refine k_icmp_ge (tgt := 90) d_L_draw_30 (by decide) (fun c_30 => ?_) (fun c_30 => ?_)
    · skip
      rw [← cDr_8] at k
      exact k_forget 6 (k_forget 7 k)
    · exact absurd (nI_le (Nat.le_refl 8) (by decide)) c_30
end DR
theorem l_draw {s0 : State} {l : Launch} {c : Cx} {g : Gh} {κ : Sg} {q p A B x0 y0 : Nat} {inn : Int32} (hq : q < 3 + gC g) (hp : p < 3) (hA : okAB A B) (h1 : okP g κ q p A B) (hx0 : x0 + 8 ≤ wdN A p) (hy0 : y0 + 8 ≤ wdN B p) : KC s0 l M_L_draw c [.ref (gA g (idL q p)), .ref (gA g 9), .int (nI x0), .int (nI y0), .int inn] g κ (fun o g' κ' => o = .inl none ∧ g' = g ∧ κ' = cDraw κ (idD q p) (wdN A p) x0 y0 inn) := by
  refine k_in (by decide) rfl rfl (Nat.le_of_ble_eq_true rfl) (fun hB => ?_)
  have hr1 := wd_r (p := p) hA.1
  have hr2 := wd_r (p := p) hA.2
  refine k_iconst (v := nI 0) d_L_draw_0 (by decide) ?_
  refine k_istore d_L_draw_1 (Nat.le_of_ble_eq_true rfl) ?_
  have key := k_loop (s0 := s0) (l := l) (M := M_L_draw) (c := c) (hB := hB) (g := g) (pc := 3) (P := fun o g' κ' => o = .inl none ∧ g' = g ∧ κ' = cDraw κ (idD q p) (wdN A p) x0 y0 inn) 8 (fun y => cDr κ (idD q p) (wdN A p) x0 y0 inn y 0) (fun y => [some (.ref (gA g (idL q p))), some (.ref (gA g 9)), some (.int (nI x0)), some (.int (nI y0)), some (.int inn), some (.int (nI y)), none, none, none]) (fun y hy ih => ?_) ?_ 0 (Nat.zero_le _)
  · rw [cDr_0] at key
    exact key
  · skip
    refine k_iload d_L_draw_3 rfl ?_
    refine k_bipush (v := nI 8) d_L_draw_5 (by decide) ?_
    refine k_icmp_ge (tgt := 96) d_L_draw_7 (by decide) (fun c_7 => ?_) (fun c_7 => ?_)
    · exact absurd ((nI_leI (by omega) (by omega)).mp c_7) (by omega)
    · skip
      refine k_iload_n d_L_draw_10 rfl rfl ?_
      refine k_iload d_L_draw_11 rfl ?_
      refine k_iaddN d_L_draw_13  ?_
      refine k_aload_n d_L_draw_14 rfl rfl ?_
      refine k_getE d_L_draw_15 fL_19 rfl (al_L hq hp) (kd_L q hp) ((cDr_k (id_LD q p q p hp hp)).trans h1.2.1) ?_
      refine k_imulN d_L_draw_18  ?_
      refine k_iload_n d_L_draw_19 rfl rfl ?_
      refine k_iaddN d_L_draw_20  ?_
      refine k_istore d_L_draw_21 (Nat.le_of_ble_eq_true rfl) ?_
      refine k_iconst (v := nI 0) d_L_draw_23 (by decide) ?_
      refine k_istore d_L_draw_24 (Nat.le_of_ble_eq_true rfl) ?_
      refine l_dr_x hq hp hA h1 hx0 hy0 hy ?_
      first | refine k_iinc1 d_L_draw_90 rfl ?_ | refine k_iinc d_L_draw_90 rfl ?_
      refine k_goto (tgt := 3) d_L_draw_93 (by decide) ?_
      exact ih
  · skip
    refine k_iload d_L_draw_3 rfl ?_
    refine k_bipush (v := nI 8) d_L_draw_5 (by decide) ?_
    refine k_icmp_ge (tgt := 96) d_L_draw_7 (by decide) (fun c_7 => ?_) (fun c_7 => ?_)
    · skip
      refine k_vret d_L_draw_96 rfl ?_
      exact ⟨rfl, rfl, cDr_e⟩
    · exact absurd (nI_le (Nat.le_refl 8) (by decide)) c_7

