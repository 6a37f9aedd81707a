/-! ===== the block ===== -/
theorem b_clear {s0 : State} {l : Launch} {c : Cx} {g : Gh} {κ : Sg}  : KC s0 l M_B_clear c [.ref (gA g 7)] g κ (fun o g' κ' => o = .inl none ∧ g' = g ∧ κ' = su (su (fFl κ 8 (nI 0) 64) 7 2 (nI 0)) 7 3 (nI 0)) := by
  refine k_in (by decide) rfl rfl (Nat.le_of_ble_eq_true rfl) (fun hB => ?_)
  refine k_aload_n d_B_clear_0 rfl rfl ?_
  refine k_getR d_B_clear_1 fB_7 rfl (al_0 (by decide)) rfl rfl ?_
  refine k_iconst (v := nI 0) d_B_clear_4 (by decide) ?_
  refine k_callSv (As := [_, _]) d_B_clear_5 lB_16 ms_J_fill rfl rfl rfl rfl (Nat.le_of_ble_eq_true rfl) (by decide) (j_fill (i := 8) (n := 64) (al_0 (by decide)) rfl rfl (by decide)) ?_
  refine k_aload_n d_B_clear_8 rfl rfl ?_
  refine k_iconst (v := nI 0) d_B_clear_9 (by decide) ?_
  refine k_put d_B_clear_10 fB_22 rfl (al_0 (by decide)) rfl rfl rfl rfl ?_
  refine k_aload_n d_B_clear_13 rfl rfl ?_
  refine k_iconst (v := nI 0) d_B_clear_14 (by decide) ?_
  refine k_put d_B_clear_15 fB_26 rfl (al_0 (by decide)) rfl rfl rfl rfl ?_
  refine k_vret d_B_clear_18 rfl ?_
  exact ⟨rfl, rfl, rfl⟩

def cPut (pl : Nat) (f : Int32) (κ : Sg) : Sg := su (su (su κ 8 pl f) 7 2 (κ 7 2 + f)) 7 3 (κ 7 3 ||| nI 1 <<< (nI (pl / 8) &&& 31))
theorem b_put {s0 : State} {l : Launch} {c : Cx} {g : Gh} {κ : Sg} {pl : Nat} {f : Int32} (hp : pl < 64) : KC s0 l M_B_put c [.ref (gA g 7), .int (nI pl), .int f] g κ (fun o g' κ' => o = .inl none ∧ g' = g ∧ κ' = cPut pl f κ) := by
  refine k_in (by decide) rfl rfl (Nat.le_of_ble_eq_true rfl) (fun hB => ?_)
  refine k_aload_n d_B_put_0 rfl rfl ?_
  refine k_getR d_B_put_1 fB_7 rfl (al_0 (by decide)) rfl rfl ?_
  refine k_iload_n d_B_put_4 rfl rfl ?_
  refine k_iload_n d_B_put_5 rfl rfl ?_
  refine k_iastore d_B_put_6 (al_0 (by decide)) rfl (show vp_in _ 64 from vp_in_nI (show pl < 64 by omega) (by decide)) ?_
  refine k_aload_n d_B_put_7 rfl rfl ?_
  refine k_dup d_B_put_8 rfl ?_
  refine k_get d_B_put_9 fB_22 rfl (al_0 (by decide)) rfl ?_
  refine k_iload_n d_B_put_12 rfl rfl ?_
  refine k_iadd d_B_put_13 ?_
  refine k_put d_B_put_14 fB_22 rfl (al_0 (by decide)) rfl rfl rfl rfl ?_
  refine k_aload_n d_B_put_17 rfl rfl ?_
  refine k_dup d_B_put_18 rfl ?_
  refine k_get d_B_put_19 fB_26 rfl (al_0 (by decide)) rfl ?_
  refine k_iconst (v := nI 1) d_B_put_22 (by decide) ?_
  refine k_iload_n d_B_put_23 rfl rfl ?_
  refine k_iconst (v := nI 3) d_B_put_24 (by decide) ?_
  refine k_ishr d_B_put_25 ?_
  refine k_top (shr3 (by omega)) ?_
  refine k_ishl d_B_put_26 ?_
  refine k_ior d_B_put_27 ?_
  refine k_put d_B_put_28 fB_26 rfl (al_0 (by decide)) rfl rfl rfl rfl ?_
  refine k_vret d_B_put_31 rfl ?_
  refine ⟨rfl, rfl, ?_⟩
  unfold cPut
  rw [nI_clamp (by omega)]
  rfl

theorem b_putDc {s0 : State} {l : Launch} {c : Cx} {g : Gh} {κ : Sg} {dc : Int32} : KC s0 l M_B_putDc c [.ref (gA g 7), .int dc] g κ (fun o g' κ' => o = .inl none ∧ g' = g ∧ κ' = cPut 0 (nI 8 * dc) κ) := by
  refine k_in (by decide) rfl rfl (Nat.le_of_ble_eq_true rfl) (fun hB => ?_)
  refine k_aload_n d_B_putDc_0 rfl rfl ?_
  refine k_iconst (v := nI 0) d_B_putDc_1 (by decide) ?_
  refine k_bipush (v := nI 8) d_B_putDc_2 (by decide) ?_
  refine k_iload_n d_B_putDc_4 rfl rfl ?_
  refine k_imul d_B_putDc_5 ?_
  refine k_callv (As := [_, _]) d_B_putDc_6 lB_29 mv_B_put rfl rfl (al_0 (by decide)) rfl rfl rfl (Nat.le_of_ble_eq_true rfl) (by decide) (b_put (pl := 0) (by decide)) ?_
  refine k_vret d_B_putDc_9 rfl ?_
  exact ⟨rfl, rfl, rfl⟩

def cWt (pl : Nat) : Nat := if 8 + 2 * (pl / 8 + pl % 8) ≤ 38 then 8 + 2 * (pl / 8 + pl % 8) else 38
def cFac (inn q : Int32) (pl : Nat) (lv : Int32) : Int32 := hel (if inn = 0 then (if 0 < lv then nI 2 * lv + nI 1 else nI 2 * lv - nI 1) * q else lv * nI (cWt pl) * q / nI 8) (-2048) (nI 2047)
theorem cFac_eq {σ : Sg} {pl : Nat} {lv : Int32} (h : ¬ lv = 0) : fFac σ pl lv = cFac (σ 32 0) (σ 35 0) pl lv := by
  unfold fFac cFac cWt
  rw [if_neg h]
theorem b_putLevel {s0 : State} {l : Launch} {c : Cx} {g : Gh} {κ : Sg} {st : Nat} {lv q inn : Int32} (hs : st < 64) : KC s0 l M_B_putLevel c [.ref (gA g 7), .int (nI st), .int lv, .int q, .int inn] g κ (fun o g' κ' => o = .inl none ∧ g' = g ∧ κ' = cPut (zzT st) (cFac inn q (zzT st) lv) κ) := by
  refine k_in (by decide) rfl rfl (Nat.le_of_ble_eq_true rfl) (fun hB => ?_)
  have hz := zz_lt st hs
  have ew : (if nI (8 + 2 * (zzT st % 8 + zzT st / 8)) < nI 38 then nI (8 + 2 * (zzT st % 8 + zzT st / 8)) else nI 38) = nI (cWt (zzT st)) := by
    unfold cWt
    have e0 : zzT st % 8 + zzT st / 8 = zzT st / 8 + zzT st % 8 := Nat.add_comm _ _
    rw [e0]
    by_cases h1 : nI (8 + 2 * (zzT st / 8 + zzT st % 8)) < nI 38
    · have h2 := (nI_ltI (by omega) (by decide)).mp h1
      rw [if_pos h1, if_pos (by omega)]
    · have h2 : 38 ≤ 8 + 2 * (zzT st / 8 + zzT st % 8) := Nat.le_of_not_lt (fun h3 => h1 (nI_lt h3 (by decide)))
      rw [if_neg h1]
      by_cases h3 : 8 + 2 * (zzT st / 8 + zzT st % 8) ≤ 38
      · rw [if_pos h3]
        congr 1
        omega
      · rw [if_neg h3]
  refine k_gets d_B_putLevel_0 (by decide) sB_33 ?_
  refine k_iload_n d_B_putLevel_3 rfl rfl ?_
  refine k_zload d_B_putLevel_4 (vp_in_nI hs (by decide)) ?_
  rw [nI_clamp (show st < 2 ^ 31 by omega)]
  refine k_istore d_B_putLevel_5 (Nat.le_of_ble_eq_true rfl) ?_
  refine k_bipush (v := nI 38) d_B_putLevel_7 (by decide) ?_
  refine k_bipush (v := nI 8) d_B_putLevel_9 (by decide) ?_
  refine k_iconst (v := nI 2) d_B_putLevel_11 (by decide) ?_
  refine k_iload d_B_putLevel_12 rfl ?_
  refine k_bipush (v := nI 7) d_B_putLevel_14 (by decide) ?_
  refine k_iand d_B_putLevel_16 ?_
  refine k_top (and7 (by omega)) ?_
  refine k_iload d_B_putLevel_17 rfl ?_
  refine k_iconst (v := nI 3) d_B_putLevel_19 (by decide) ?_
  refine k_ishr d_B_putLevel_20 ?_
  refine k_top (shr3 (by omega)) ?_
  refine k_iaddN d_B_putLevel_21  ?_
  refine k_imulN d_B_putLevel_22  ?_
  refine k_iaddN d_B_putLevel_23  ?_
  refine k_min d_B_putLevel_24 lB_36 w_min1 w_min2 w_min3 (Nat.le_of_ble_eq_true rfl) (by decide) ?_
  refine k_top ew ?_
  refine k_istore d_B_putLevel_27 (Nat.le_of_ble_eq_true rfl) ?_
  refine k_iload d_B_putLevel_29 rfl ?_
  refine k_if_eq (tgt := 46) d_B_putLevel_31 (by decide) (fun c_31 => ?_) (fun c_31 => ?_)
  · skip
    refine k_iconst (v := nI 2) d_B_putLevel_46 (by decide) ?_
    refine k_iload_n d_B_putLevel_47 rfl rfl ?_
    refine k_imul d_B_putLevel_48 ?_
    refine k_iload_n d_B_putLevel_49 rfl rfl ?_
    refine k_if_le (tgt := 57) d_B_putLevel_50 (by decide) (fun c_50 => ?_) (fun c_50 => ?_)
    · skip
      refine k_iconst (v := (-1)) d_B_putLevel_57 (by decide) ?_
      refine k_iadd d_B_putLevel_58 ?_
      refine k_iload_n d_B_putLevel_59 rfl rfl ?_
      refine k_imul d_B_putLevel_60 ?_
      refine k_istore d_B_putLevel_61 (Nat.le_of_ble_eq_true rfl) ?_
      refine k_aload_n d_B_putLevel_63 rfl rfl ?_
      refine k_iload d_B_putLevel_64 rfl ?_
      refine k_iload d_B_putLevel_66 rfl ?_
      refine k_sipush (v := (-2048)) d_B_putLevel_68 (by decide) ?_
      refine k_sipush (v := nI 2047) d_B_putLevel_71 (by decide) ?_
      refine k_held d_B_putLevel_74 nB_42 (Nat.le_of_ble_eq_true rfl) (by decide) ?_
      refine k_callv (As := [_, _]) d_B_putLevel_77 lB_29 mv_B_put rfl rfl (al_0 (by decide)) rfl rfl rfl (Nat.le_of_ble_eq_true rfl) (by decide) (b_put hz) ?_
      refine k_vret d_B_putLevel_80 rfl ?_
      refine ⟨rfl, rfl, ?_⟩
      unfold cFac
      first
        | (rw [if_neg c_31])
        | (rw [if_pos c_31, if_neg (Int32.not_lt.mpr c_50), Int32.sub_eq_add_neg]; rfl)
        | (rw [if_pos c_31, if_pos (Int32.not_le.mp c_50)])
    · skip
      refine k_iconst (v := nI 1) d_B_putLevel_53 (by decide) ?_
      refine k_goto (tgt := 58) d_B_putLevel_54 (by decide) ?_
      refine k_iadd d_B_putLevel_58 ?_
      refine k_iload_n d_B_putLevel_59 rfl rfl ?_
      refine k_imul d_B_putLevel_60 ?_
      refine k_istore d_B_putLevel_61 (Nat.le_of_ble_eq_true rfl) ?_
      refine k_aload_n d_B_putLevel_63 rfl rfl ?_
      refine k_iload d_B_putLevel_64 rfl ?_
      refine k_iload d_B_putLevel_66 rfl ?_
      refine k_sipush (v := (-2048)) d_B_putLevel_68 (by decide) ?_
      refine k_sipush (v := nI 2047) d_B_putLevel_71 (by decide) ?_
      refine k_held d_B_putLevel_74 nB_42 (Nat.le_of_ble_eq_true rfl) (by decide) ?_
      refine k_callv (As := [_, _]) d_B_putLevel_77 lB_29 mv_B_put rfl rfl (al_0 (by decide)) rfl rfl rfl (Nat.le_of_ble_eq_true rfl) (by decide) (b_put hz) ?_
      refine k_vret d_B_putLevel_80 rfl ?_
      refine ⟨rfl, rfl, ?_⟩
      unfold cFac
      first
        | (rw [if_neg c_31])
        | (rw [if_pos c_31, if_neg (Int32.not_lt.mpr c_50), Int32.sub_eq_add_neg]; rfl)
        | (rw [if_pos c_31, if_pos (Int32.not_le.mp c_50)])
  · skip
    refine k_iload_n d_B_putLevel_34 rfl rfl ?_
    refine k_iload d_B_putLevel_35 rfl ?_
    refine k_imul d_B_putLevel_37 ?_
    refine k_iload_n d_B_putLevel_38 rfl rfl ?_
    refine k_imul d_B_putLevel_39 ?_
    refine k_bipush (v := nI 8) d_B_putLevel_40 (by decide) ?_
    refine k_idiv d_B_putLevel_42 (by decide) ?_
    refine k_goto (tgt := 61) d_B_putLevel_43 (by decide) ?_
    refine k_istore d_B_putLevel_61 (Nat.le_of_ble_eq_true rfl) ?_
    refine k_aload_n d_B_putLevel_63 rfl rfl ?_
    refine k_iload d_B_putLevel_64 rfl ?_
    refine k_iload d_B_putLevel_66 rfl ?_
    refine k_sipush (v := (-2048)) d_B_putLevel_68 (by decide) ?_
    refine k_sipush (v := nI 2047) d_B_putLevel_71 (by decide) ?_
    refine k_held d_B_putLevel_74 nB_42 (Nat.le_of_ble_eq_true rfl) (by decide) ?_
    refine k_callv (As := [_, _]) d_B_putLevel_77 lB_29 mv_B_put rfl rfl (al_0 (by decide)) rfl rfl rfl (Nat.le_of_ble_eq_true rfl) (by decide) (b_put hz) ?_
    refine k_vret d_B_putLevel_80 rfl ?_
    refine ⟨rfl, rfl, ?_⟩
    unfold cFac
    first
      | (rw [if_neg c_31])
      | (rw [if_pos c_31, if_neg (Int32.not_lt.mpr c_50), Int32.sub_eq_add_neg]; rfl)
      | (rw [if_pos c_31, if_pos (Int32.not_le.mp c_50)])

def cRow (κ : Sg) (v x : Nat) : Int32 := sg (nI 1024) (fun u => κ 8 (8 * v + u) * cosT (8 * u + x)) 8 >>> (nI 11 &&& 31)
def cAr (κ : Sg) (v x y : Nat) : Sg := sa κ 9 (fun j => if j < 64 ∧ (j % 8 < x ∨ (j % 8 = x ∧ j / 8 < y)) then κ 9 j + cRow κ v (j % 8) * cosT (8 * v + j / 8) else κ 9 j)
def cAdd (κ : Sg) (v : Nat) : Sg := sa κ 9 (fun j => if j < 64 then κ 9 j + cRow κ v (j % 8) * cosT (8 * v + j / 8) else κ 9 j)
theorem cAr_0 {κ : Sg} {v : Nat} : cAr κ v 0 0 = κ := sa_self (fun j => by rw [if_neg (by omega)])
theorem cAr_8 {κ : Sg} {v x : Nat} : cAr κ v x 8 = cAr κ v (x + 1) 0 := sa_ext (fun j => by
  by_cases h : j < 64 ∧ (j % 8 < x ∨ (j % 8 = x ∧ j / 8 < 8))
  · rw [if_pos h, if_pos (by omega)]
  · rw [if_neg h, if_neg (by omega)])
theorem cAr_e {κ : Sg} {v : Nat} : cAr κ v 8 0 = cAdd κ v := sa_ext (fun j => by
  by_cases h : j < 64
  · rw [if_pos (by omega), if_pos h]
  · rw [if_neg (by omega), if_neg h])
theorem cAr_s {κ : Sg} {v x y : Nat} (hx : x < 8) (hy : y < 8) : su (cAr κ v x y) 9 (8 * y + x) (cAr κ v x y 9 (8 * y + x) + cRow κ v x * cosT (8 * v + y)) = cAr κ v x (y + 1) := by
  have e : cAr κ v x y 9 (8 * y + x) = κ 9 (8 * y + x) := (sa_at _ _ _ _).trans (if_neg (by omega))
  rw [e]
  refine su_sa (fun j => ?_)
  by_cases h : j = 8 * y + x
  · have e1 : j % 8 = x := by omega
    have e2 : j / 8 = y := by omega
    rw [if_pos h, if_pos (by omega), e1, e2, h]
  · rw [if_neg h]
    by_cases h2 : j < 64 ∧ (j % 8 < x ∨ (j % 8 = x ∧ j / 8 < y))
    · rw [if_pos h2, if_pos (by omega)]
    · rw [if_neg h2, if_neg (by omega)]
section AR
variable {s0 : State} {l : Launch} {c : Cx} {hB : Mem} {g : Gh} {κ : Sg} {P : Out → Gh → Sg → Prop} {v x : Nat}
theorem b_ar_u {κ2 : Sg} (he : ∀ j, κ2 8 j = κ 8 j) (hv : v < 8) (hx : x < 8) (k : KQ s0 l M_B_addRow c hB 55 [some (.ref (gA g 7)), some (.int (nI v)), some (.int (nI x)), some (.int (sg (nI 1024) (fun u => κ 8 (8 * v + u) * cosT (8 * u + x)) 8)), some (.int (nI 8))] [] g κ2 P) : KQ s0 l M_B_addRow c hB 15 [some (.ref (gA g 7)), some (.int (nI v)), some (.int (nI x)), some (.int (nI 1024)), some (.int (nI 0))] [] g κ2 P := by
  refine k_loop 8 (fun _ => κ2) (fun u => [some (.ref (gA g 7)), some (.int (nI v)), some (.int (nI x)), some (.int (sg (nI 1024) (fun u => κ 8 (8 * v + u) * cosT (8 * u + x)) u)), some (.int (nI u))]) (fun u hu ih => ?_) ?_ 0 (Nat.zero_le _)
  · skip
    refine k_iload d_B_addRow_15 rfl ?_
    refine k_bipush (v := nI 8) d_B_addRow_17 (by decide) ?_
    refine k_icmp_ge (tgt := 55) d_B_addRow_19 (by decide) (fun c_19 => ?_) (fun c_19 => ?_)
    · exact absurd ((nI_leI (by omega) (by omega)).mp c_19) (by omega)
    · skip
      refine k_iload_n d_B_addRow_22 rfl rfl ?_
      refine k_aload_n d_B_addRow_23 rfl rfl ?_
      refine k_getR d_B_addRow_24 fB_7 rfl (al_0 (by decide)) rfl rfl ?_
      refine k_bipush (v := nI 8) d_B_addRow_27 (by decide) ?_
      refine k_iload_n d_B_addRow_29 rfl rfl ?_
      refine k_imulN d_B_addRow_30  ?_
      refine k_iload d_B_addRow_31 rfl ?_
      refine k_iaddN d_B_addRow_33  ?_
      refine k_iaload d_B_addRow_34 (al_0 (by decide)) rfl (show vp_in _ 64 from vp_in_nI (show 8 * v + u < 64 by omega) (by decide)) ?_
      refine k_gets d_B_addRow_35 (by decide) sB_52 ?_
      refine k_bipush (v := nI 8) d_B_addRow_38 (by decide) ?_
      refine k_iload d_B_addRow_40 rfl ?_
      refine k_imulN d_B_addRow_42  ?_
      refine k_iload_n d_B_addRow_43 rfl rfl ?_
      refine k_iaddN d_B_addRow_44  ?_
      refine k_cload d_B_addRow_45 (vp_in_nI (show 8 * u + x < 64 by omega) (by decide)) ?_
      refine k_imul d_B_addRow_46 ?_
      refine k_iadd d_B_addRow_47 ?_
      refine k_istore_n d_B_addRow_48 rfl (Nat.le_of_ble_eq_true rfl) ?_
      first | refine k_iinc1 d_B_addRow_49 rfl ?_ | refine k_iinc d_B_addRow_49 rfl ?_
      refine k_goto (tgt := 15) d_B_addRow_52 (by decide) ?_
      rw [nI_clamp (by omega), nI_clamp (by omega), he]
      exact ih
  · skip
    refine k_iload d_B_addRow_15 rfl ?_
    refine k_bipush (v := nI 8) d_B_addRow_17 (by decide) ?_
    refine k_icmp_ge (tgt := 55) d_B_addRow_19 (by decide) (fun c_19 => ?_) (fun c_19 => ?_)
    · skip
      exact k
    · exact absurd (nI_le (Nat.le_refl 8) (by decide)) c_19
theorem b_ar_y (hv : v < 8) (hx : x < 8) (k : KQ s0 l M_B_addRow c hB 104 [some (.ref (gA g 7)), some (.int (nI v)), some (.int (nI x)), none, none] [] g (cAr κ v (x + 1) 0) P) : KQ s0 l M_B_addRow c hB 63 [some (.ref (gA g 7)), some (.int (nI v)), some (.int (nI x)), some (.int (cRow κ v x)), some (.int (nI 0))] [] g (cAr κ v x 0) P := by
  refine k_loop 8 (fun y => cAr κ v x y) (fun y => [some (.ref (gA g 7)), some (.int (nI v)), some (.int (nI x)), some (.int (cRow κ v x)), some (.int (nI y))]) (fun y hy ih => ?_) ?_ 0 (Nat.zero_le _)
  · skip
    refine k_iload d_B_addRow_63 rfl ?_
    refine k_bipush (v := nI 8) d_B_addRow_65 (by decide) ?_
    refine k_icmp_ge (tgt := 104) d_B_addRow_67 (by decide) (fun c_67 => ?_) (fun c_67 => ?_)
    · exact absurd ((nI_leI (by omega) (by omega)).mp c_67) (by omega)
    · skip
      refine k_aload_n d_B_addRow_70 rfl rfl ?_
      refine k_getR d_B_addRow_71 fB_13 rfl (al_0 (by decide)) rfl rfl ?_
      refine k_bipush (v := nI 8) d_B_addRow_74 (by decide) ?_
      refine k_iload d_B_addRow_76 rfl ?_
      refine k_imulN d_B_addRow_78  ?_
      refine k_iload_n d_B_addRow_79 rfl rfl ?_
      refine k_iaddN d_B_addRow_80  ?_
      refine k_dup2 d_B_addRow_81 rfl rfl ?_
      refine k_iaload d_B_addRow_82 (al_0 (by decide)) rfl (show vp_in _ 64 from vp_in_nI (show 8 * y + x < 64 by omega) (by decide)) ?_
      refine k_iload_n d_B_addRow_83 rfl rfl ?_
      refine k_gets d_B_addRow_84 (by decide) sB_52 ?_
      refine k_bipush (v := nI 8) d_B_addRow_87 (by decide) ?_
      refine k_iload_n d_B_addRow_89 rfl rfl ?_
      refine k_imulN d_B_addRow_90  ?_
      refine k_iload d_B_addRow_91 rfl ?_
      refine k_iaddN d_B_addRow_93  ?_
      refine k_cload d_B_addRow_94 (vp_in_nI (show 8 * v + y < 64 by omega) (by decide)) ?_
      refine k_imul d_B_addRow_95 ?_
      refine k_iadd d_B_addRow_96 ?_
      refine k_iastore d_B_addRow_97 (al_0 (by decide)) rfl (show vp_in _ 64 from vp_in_nI (show 8 * y + x < 64 by omega) (by decide)) ?_
      first | refine k_iinc1 d_B_addRow_98 rfl ?_ | refine k_iinc d_B_addRow_98 rfl ?_
      refine k_goto (tgt := 63) d_B_addRow_101 (by decide) ?_
      rw [nI_clamp (by omega), nI_clamp (by omega), cAr_s hx hy]
      exact ih
  · skip
    refine k_iload d_B_addRow_63 rfl ?_
    refine k_bipush (v := nI 8) d_B_addRow_65 (by decide) ?_
    refine k_icmp_ge (tgt := 104) d_B_addRow_67 (by decide) (fun c_67 => ?_) (fun c_67 => ?_)
    · skip
      rw [← cAr_8] at k
      exact k_forget 3 (k_forget 4 k)
    · exact absurd (nI_le (Nat.le_refl 8) (by decide)) c_67
end AR
theorem b_addRow {s0 : State} {l : Launch} {c : Cx} {g : Gh} {κ : Sg} {v : Nat} (hv : v < 8) : KC s0 l M_B_addRow c [.ref (gA g 7), .int (nI v)] g κ (fun o g' κ' => o = .inl none ∧ g' = g ∧ κ' = cAdd κ v) := by
  refine k_in (by decide) rfl rfl (Nat.le_of_ble_eq_true rfl) (fun hB => ?_)
  refine k_iconst (v := nI 0) d_B_addRow_0 (by decide) ?_
  refine k_istore_n d_B_addRow_1 rfl (Nat.le_of_ble_eq_true rfl) ?_
  have key := k_loop (s0 := s0) (l := l) (M := M_B_addRow) (c := c) (hB := hB) (g := g) (pc := 2) (P := fun o g' κ' => o = .inl none ∧ g' = g ∧ κ' = cAdd κ v) 8 (fun x => cAr κ v x 0) (fun x => [some (.ref (gA g 7)), some (.int (nI v)), some (.int (nI x)), none, none]) (fun x hx ih => ?_) ?_ 0 (Nat.zero_le _)
  · rw [cAr_0] at key
    exact key
  · skip
    refine k_iload_n d_B_addRow_2 rfl rfl ?_
    refine k_bipush (v := nI 8) d_B_addRow_3 (by decide) ?_
    refine k_icmp_ge (tgt := 110) d_B_addRow_5 (by decide) (fun c_5 => ?_) (fun c_5 => ?_)
    · exact absurd ((nI_leI (by omega) (by omega)).mp c_5) (by omega)
    · skip
      refine k_sipush (v := nI 1024) d_B_addRow_8 (by decide) ?_
      refine k_istore_n d_B_addRow_11 rfl (Nat.le_of_ble_eq_true rfl) ?_
      refine k_iconst (v := nI 0) d_B_addRow_12 (by decide) ?_
      refine k_istore d_B_addRow_13 (Nat.le_of_ble_eq_true rfl) ?_
      refine b_ar_u (κ := κ) (fun j => rfl) hv hx ?_
      refine k_iload_n d_B_addRow_55 rfl rfl ?_
      refine k_bipush (v := nI 11) d_B_addRow_56 (by decide) ?_
      refine k_ishr d_B_addRow_58 ?_
      refine k_istore_n d_B_addRow_59 rfl (Nat.le_of_ble_eq_true rfl) ?_
      refine k_iconst (v := nI 0) d_B_addRow_60 (by decide) ?_
      refine k_istore d_B_addRow_61 (Nat.le_of_ble_eq_true rfl) ?_
      refine k_st (κ2 := cAr κ v x 0) rfl ?_
      refine b_ar_y hv hx ?_
      first | refine k_iinc1 d_B_addRow_104 rfl ?_ | refine k_iinc d_B_addRow_104 rfl ?_
      refine k_goto (tgt := 2) d_B_addRow_107 (by decide) ?_
      exact ih
  · skip
    refine k_iload_n d_B_addRow_2 rfl rfl ?_
    refine k_bipush (v := nI 8) d_B_addRow_3 (by decide) ?_
    refine k_icmp_ge (tgt := 110) d_B_addRow_5 (by decide) (fun c_5 => ?_) (fun c_5 => ?_)
    · skip
      refine k_vret d_B_addRow_110 rfl ?_
      exact ⟨rfl, rfl, cAr_e⟩
    · exact absurd (nI_le (Nat.le_refl 8) (by decide)) c_5

def cMp (κ : Sg) : Sg := if κ 7 2 &&& nI 1 = 0 then su (su κ 8 63 (κ 8 63 ^^^ nI 1)) 7 3 (κ 7 3 ||| nI 128) else κ
def cAc (κ : Sg) (j : Nat) : Nat → Int32
  | 0 => nI 16384
  | n + 1 => if κ 7 3 >>> (nI n &&& 31) &&& nI 1 = nI 1 then cAc κ j n + cRow κ n (j % 8) * cosT (8 * n + j / 8) else cAc κ j n
def cMv (κ : Sg) (n : Nat) : Sg := sa κ 9 (fun j => if j < 64 then cAc κ j n else κ 9 j)
def cMi (κ : Sg) (n : Nat) : Sg := sa κ 9 (fun j => if j < n then cAc κ j 8 >>> (nI 15 &&& 31) else if j < 64 then cAc κ j 8 else κ 9 j)
theorem cMv_0 {κ : Sg} : fFl κ 9 (nI 16384) 64 = cMv κ 0 := rfl
theorem cMv_s {κ : Sg} {n : Nat} (h : κ 7 3 >>> (nI n &&& 31) &&& nI 1 = nI 1) : cAdd (cMv κ n) n = cMv κ (n + 1) := by
  funext a b
  unfold cAdd sa
  by_cases e : a = 9
  · rw [if_pos e, e]
    show (if b < 64 then cMv κ n 9 b + cRow (cMv κ n) n (b % 8) * cosT (8 * n + b / 8) else cMv κ n 9 b) = cMv κ (n + 1) 9 b
    have e1 : ∀ n, cMv κ n 9 b = if b < 64 then cAc κ b n else κ 9 b := fun n => sa_at _ _ _ _
    rw [e1, e1]
    by_cases hb : b < 64
    · rw [if_pos hb, if_pos hb, if_pos hb]
      show _ = if κ 7 3 >>> (nI n &&& 31) &&& nI 1 = nI 1 then cAc κ b n + cRow κ n (b % 8) * cosT (8 * n + b / 8) else cAc κ b n
      rw [if_pos h]
      rfl
    · rw [if_neg hb, if_neg hb, if_neg hb]
  · rw [if_neg e]
    show cMv κ n a b = cMv κ (n + 1) a b
    rw [show cMv κ n a b = κ a b from sa_k e, show cMv κ (n + 1) a b = κ a b from sa_k e]
theorem cMv_n {κ : Sg} {n : Nat} (h : ¬ κ 7 3 >>> (nI n &&& 31) &&& nI 1 = nI 1) : cMv κ n = cMv κ (n + 1) := sa_ext (fun j => by
  show _ = if j < 64 then (if κ 7 3 >>> (nI n &&& 31) &&& nI 1 = nI 1 then cAc κ j n + cRow κ n (j % 8) * cosT (8 * n + j / 8) else cAc κ j n) else κ 9 j
  rw [if_neg h])
theorem cMi_0 {κ : Sg} : cMv κ 8 = cMi κ 0 := sa_ext (fun j => by rw [if_neg (show ¬ j < 0 by omega)])
theorem cMi_s {κ : Sg} {n : Nat} (hn : n < 64) : su (cMi κ n) 9 n (cMi κ n 9 n >>> (nI 15 &&& 31)) = cMi κ (n + 1) := by
  have e : cMi κ n 9 n = cAc κ n 8 := (sa_at _ _ _ _).trans (by rw [if_neg (by omega), if_pos hn])
  rw [e]
  refine su_sa (fun j => ?_)
  by_cases h : j = n
  · rw [if_pos h, if_pos (by omega), h]
  · rw [if_neg h]
    by_cases h2 : j < n
    · rw [if_pos h2, if_pos (by omega)]
    · rw [if_neg h2, if_neg (show ¬ j < n + 1 by omega)]
def cMk (κ : Sg) : Sg := cMi (cMp κ) 64
theorem b_makeSums {s0 : State} {l : Launch} {c : Cx} {g : Gh} {κ : Sg}  : KC s0 l M_B_makeSums c [.ref (gA g 7)] g κ (fun o g' κ' => o = .inl none ∧ g' = g ∧ κ' = cMk κ) := by
  refine k_in (by decide) rfl rfl (Nat.le_of_ble_eq_true rfl) (fun hB => ?_)
  refine k_aload_n d_B_makeSums_0 rfl rfl ?_
  refine k_get d_B_makeSums_1 fB_22 rfl (al_0 (by decide)) rfl ?_
  refine k_iconst (v := nI 1) d_B_makeSums_4 (by decide) ?_
  refine k_iand d_B_makeSums_5 ?_
  refine k_if_ne (tgt := 32) d_B_makeSums_6 (by decide) (fun c_6 => ?_) (fun c_6 => ?_)
  · skip
    refine k_aload_n d_B_makeSums_32 rfl rfl ?_
    refine k_getR d_B_makeSums_33 fB_13 rfl (al_0 (by decide)) rfl rfl ?_
    refine k_sipush (v := nI 16384) d_B_makeSums_36 (by decide) ?_
    refine k_callSv (As := [_, _]) d_B_makeSums_39 lB_16 ms_J_fill rfl rfl rfl rfl (Nat.le_of_ble_eq_true rfl) (by decide) (j_fill (i := 9) (n := 64) (al_0 (by decide)) rfl rfl (by decide)) ?_
    refine k_iconst (v := nI 0) d_B_makeSums_42 (by decide) ?_
    refine k_istore_n d_B_makeSums_43 rfl (Nat.le_of_ble_eq_true rfl) ?_
    refine k_st (κ2 := cMv (cMp κ) 0) (congrArg (fun z => fFl z 9 (nI 16384) 64) (show _ = cMp κ from by unfold cMp; first | (rw [if_pos c_6]; rfl) | rw [if_neg c_6])) ?_
    refine k_loop 8 (fun n => cMv (cMp κ) n) (fun n => [some (.ref (gA g 7)), some (.int (nI n))]) (fun n hn ih => ?_) ?_ 0 (Nat.zero_le _)
    · skip
      refine k_iload_n d_B_makeSums_44 rfl rfl ?_
      refine k_bipush (v := nI 8) d_B_makeSums_45 (by decide) ?_
      refine k_icmp_ge (tgt := 73) d_B_makeSums_47 (by decide) (fun c_47 => ?_) (fun c_47 => ?_)
      · exact absurd ((nI_leI (by omega) (by omega)).mp c_47) (by omega)
      · skip
        refine k_aload_n d_B_makeSums_50 rfl rfl ?_
        refine k_get d_B_makeSums_51 fB_26 rfl (al_0 (by decide)) rfl ?_
        refine k_iload_n d_B_makeSums_54 rfl rfl ?_
        refine k_ishr d_B_makeSums_55 ?_
        refine k_iconst (v := nI 1) d_B_makeSums_56 (by decide) ?_
        refine k_iand d_B_makeSums_57 ?_
        refine k_iconst (v := nI 1) d_B_makeSums_58 (by decide) ?_
        refine k_icmp_ne (tgt := 67) d_B_makeSums_59 (by decide) (fun c_59 => ?_) (fun c_59 => ?_)
        · skip
          first | refine k_iinc1 d_B_makeSums_67 rfl ?_ | refine k_iinc d_B_makeSums_67 rfl ?_
          refine k_goto (tgt := 44) d_B_makeSums_70 (by decide) ?_
          first
            | (refine k_st (cMv_s c_59) ?_; exact ih)
            | (refine k_st (cMv_n c_59) ?_; exact ih)
        · skip
          refine k_aload_n d_B_makeSums_62 rfl rfl ?_
          refine k_iload_n d_B_makeSums_63 rfl rfl ?_
          refine k_callv (As := [_]) d_B_makeSums_64 lB_48 mv_B_addRow rfl rfl (al_0 (by decide)) rfl rfl rfl (Nat.le_of_ble_eq_true rfl) (by decide) (b_addRow hn) ?_
          first | refine k_iinc1 d_B_makeSums_67 rfl ?_ | refine k_iinc d_B_makeSums_67 rfl ?_
          refine k_goto (tgt := 44) d_B_makeSums_70 (by decide) ?_
          first
            | (refine k_st (cMv_s c_59) ?_; exact ih)
            | (refine k_st (cMv_n c_59) ?_; exact ih)
    · skip
      refine k_iload_n d_B_makeSums_44 rfl rfl ?_
      refine k_bipush (v := nI 8) d_B_makeSums_45 (by decide) ?_
      refine k_icmp_ge (tgt := 73) d_B_makeSums_47 (by decide) (fun c_47 => ?_) (fun c_47 => ?_)
      · skip
        refine k_iconst (v := nI 0) d_B_makeSums_73 (by decide) ?_
        refine k_istore_n d_B_makeSums_74 rfl (Nat.le_of_ble_eq_true rfl) ?_
        refine k_st cMi_0 ?_
        refine k_loop 64 (fun n => cMi (cMp κ) n) (fun n => [some (.ref (gA g 7)), some (.int (nI n))]) (fun n hn ih => ?_) ?_ 0 (Nat.zero_le _)
        · skip
          refine k_iload_n d_B_makeSums_75 rfl rfl ?_
          refine k_aload_n d_B_makeSums_76 rfl rfl ?_
          refine k_getR d_B_makeSums_77 fB_13 rfl (al_0 (by decide)) rfl rfl ?_
          refine k_alen d_B_makeSums_80 (al_0 (by decide)) rfl (show lnI g 9 = 64 from rfl) ?_
          refine k_icmp_ge (tgt := 101) d_B_makeSums_81 (by decide) (fun c_81 => ?_) (fun c_81 => ?_)
          · exact absurd ((nI_leI (by omega) (by omega)).mp c_81) (by omega)
          · skip
            refine k_aload_n d_B_makeSums_84 rfl rfl ?_
            refine k_getR d_B_makeSums_85 fB_13 rfl (al_0 (by decide)) rfl rfl ?_
            refine k_iload_n d_B_makeSums_88 rfl rfl ?_
            refine k_dup2 d_B_makeSums_89 rfl rfl ?_
            refine k_iaload d_B_makeSums_90 (al_0 (by decide)) rfl (show vp_in _ 64 from vp_in_nI (show n < 64 by omega) (by decide)) ?_
            refine k_bipush (v := nI 15) d_B_makeSums_91 (by decide) ?_
            refine k_ishr d_B_makeSums_93 ?_
            refine k_iastore d_B_makeSums_94 (al_0 (by decide)) rfl (show vp_in _ 64 from vp_in_nI (show n < 64 by omega) (by decide)) ?_
            first | refine k_iinc1 d_B_makeSums_95 rfl ?_ | refine k_iinc d_B_makeSums_95 rfl ?_
            refine k_goto (tgt := 75) d_B_makeSums_98 (by decide) ?_
            rw [nI_clamp (by omega), cMi_s hn]
            exact ih
        · skip
          refine k_iload_n d_B_makeSums_75 rfl rfl ?_
          refine k_aload_n d_B_makeSums_76 rfl rfl ?_
          refine k_getR d_B_makeSums_77 fB_13 rfl (al_0 (by decide)) rfl rfl ?_
          refine k_alen d_B_makeSums_80 (al_0 (by decide)) rfl (show lnI g 9 = 64 from rfl) ?_
          refine k_icmp_ge (tgt := 101) d_B_makeSums_81 (by decide) (fun c_81 => ?_) (fun c_81 => ?_)
          · skip
            refine k_vret d_B_makeSums_101 rfl ?_
            exact ⟨rfl, rfl, rfl⟩
          · exact absurd (nI_le (Nat.le_refl 64) (by decide)) c_81
      · exact absurd (nI_le (Nat.le_refl 8) (by decide)) c_47
  · skip
    refine k_aload_n d_B_makeSums_9 rfl rfl ?_
    refine k_getR d_B_makeSums_10 fB_7 rfl (al_0 (by decide)) rfl rfl ?_
    refine k_bipush (v := nI 63) d_B_makeSums_13 (by decide) ?_
    refine k_dup2 d_B_makeSums_15 rfl rfl ?_
    refine k_iaload d_B_makeSums_16 (al_0 (by decide)) rfl (show vp_in _ 64 from vp_in_nI (show 63 < 64 by decide) (by decide)) ?_
    refine k_iconst (v := nI 1) d_B_makeSums_17 (by decide) ?_
    refine k_ixor d_B_makeSums_18 ?_
    refine k_iastore d_B_makeSums_19 (al_0 (by decide)) rfl (show vp_in _ 64 from vp_in_nI (show 63 < 64 by decide) (by decide)) ?_
    refine k_aload_n d_B_makeSums_20 rfl rfl ?_
    refine k_dup d_B_makeSums_21 rfl ?_
    refine k_get d_B_makeSums_22 fB_26 rfl (al_0 (by decide)) rfl ?_
    refine k_sipush (v := nI 128) d_B_makeSums_25 (by decide) ?_
    refine k_ior d_B_makeSums_28 ?_
    refine k_put d_B_makeSums_29 fB_26 rfl (al_0 (by decide)) rfl rfl rfl rfl ?_
    refine k_aload_n d_B_makeSums_32 rfl rfl ?_
    refine k_getR d_B_makeSums_33 fB_13 rfl (al_0 (by decide)) rfl rfl ?_
    refine k_sipush (v := nI 16384) d_B_makeSums_36 (by decide) ?_
    refine k_callSv (As := [_, _]) d_B_makeSums_39 lB_16 ms_J_fill rfl rfl rfl rfl (Nat.le_of_ble_eq_true rfl) (by decide) (j_fill (i := 9) (n := 64) (al_0 (by decide)) rfl rfl (by decide)) ?_
    refine k_iconst (v := nI 0) d_B_makeSums_42 (by decide) ?_
    refine k_istore_n d_B_makeSums_43 rfl (Nat.le_of_ble_eq_true rfl) ?_
    refine k_st (κ2 := cMv (cMp κ) 0) (congrArg (fun z => fFl z 9 (nI 16384) 64) (show _ = cMp κ from by unfold cMp; first | (rw [if_pos c_6]; rfl) | rw [if_neg c_6])) ?_
    refine k_loop 8 (fun n => cMv (cMp κ) n) (fun n => [some (.ref (gA g 7)), some (.int (nI n))]) (fun n hn ih => ?_) ?_ 0 (Nat.zero_le _)
    · skip
      refine k_iload_n d_B_makeSums_44 rfl rfl ?_
      refine k_bipush (v := nI 8) d_B_makeSums_45 (by decide) ?_
      refine k_icmp_ge (tgt := 73) d_B_makeSums_47 (by decide) (fun c_47 => ?_) (fun c_47 => ?_)
      · exact absurd ((nI_leI (by omega) (by omega)).mp c_47) (by omega)
      · skip
        refine k_aload_n d_B_makeSums_50 rfl rfl ?_
        refine k_get d_B_makeSums_51 fB_26 rfl (al_0 (by decide)) rfl ?_
        refine k_iload_n d_B_makeSums_54 rfl rfl ?_
        refine k_ishr d_B_makeSums_55 ?_
        refine k_iconst (v := nI 1) d_B_makeSums_56 (by decide) ?_
        refine k_iand d_B_makeSums_57 ?_
        refine k_iconst (v := nI 1) d_B_makeSums_58 (by decide) ?_
        refine k_icmp_ne (tgt := 67) d_B_makeSums_59 (by decide) (fun c_59 => ?_) (fun c_59 => ?_)
        · skip
          first | refine k_iinc1 d_B_makeSums_67 rfl ?_ | refine k_iinc d_B_makeSums_67 rfl ?_
          refine k_goto (tgt := 44) d_B_makeSums_70 (by decide) ?_
          first
            | (refine k_st (cMv_s c_59) ?_; exact ih)
            | (refine k_st (cMv_n c_59) ?_; exact ih)
        · skip
          refine k_aload_n d_B_makeSums_62 rfl rfl ?_
          refine k_iload_n d_B_makeSums_63 rfl rfl ?_
          refine k_callv (As := [_]) d_B_makeSums_64 lB_48 mv_B_addRow rfl rfl (al_0 (by decide)) rfl rfl rfl (Nat.le_of_ble_eq_true rfl) (by decide) (b_addRow hn) ?_
          first | refine k_iinc1 d_B_makeSums_67 rfl ?_ | refine k_iinc d_B_makeSums_67 rfl ?_
          refine k_goto (tgt := 44) d_B_makeSums_70 (by decide) ?_
          first
            | (refine k_st (cMv_s c_59) ?_; exact ih)
            | (refine k_st (cMv_n c_59) ?_; exact ih)
    · skip
      refine k_iload_n d_B_makeSums_44 rfl rfl ?_
      refine k_bipush (v := nI 8) d_B_makeSums_45 (by decide) ?_
      refine k_icmp_ge (tgt := 73) d_B_makeSums_47 (by decide) (fun c_47 => ?_) (fun c_47 => ?_)
      · skip
        refine k_iconst (v := nI 0) d_B_makeSums_73 (by decide) ?_
        refine k_istore_n d_B_makeSums_74 rfl (Nat.le_of_ble_eq_true rfl) ?_
        refine k_st cMi_0 ?_
        refine k_loop 64 (fun n => cMi (cMp κ) n) (fun n => [some (.ref (gA g 7)), some (.int (nI n))]) (fun n hn ih => ?_) ?_ 0 (Nat.zero_le _)
        · skip
          refine k_iload_n d_B_makeSums_75 rfl rfl ?_
          refine k_aload_n d_B_makeSums_76 rfl rfl ?_
          refine k_getR d_B_makeSums_77 fB_13 rfl (al_0 (by decide)) rfl rfl ?_
          refine k_alen d_B_makeSums_80 (al_0 (by decide)) rfl (show lnI g 9 = 64 from rfl) ?_
          refine k_icmp_ge (tgt := 101) d_B_makeSums_81 (by decide) (fun c_81 => ?_) (fun c_81 => ?_)
          · exact absurd ((nI_leI (by omega) (by omega)).mp c_81) (by omega)
          · skip
            refine k_aload_n d_B_makeSums_84 rfl rfl ?_
            refine k_getR d_B_makeSums_85 fB_13 rfl (al_0 (by decide)) rfl rfl ?_
            refine k_iload_n d_B_makeSums_88 rfl rfl ?_
            refine k_dup2 d_B_makeSums_89 rfl rfl ?_
            refine k_iaload d_B_makeSums_90 (al_0 (by decide)) rfl (show vp_in _ 64 from vp_in_nI (show n < 64 by omega) (by decide)) ?_
            refine k_bipush (v := nI 15) d_B_makeSums_91 (by decide) ?_
            refine k_ishr d_B_makeSums_93 ?_
            refine k_iastore d_B_makeSums_94 (al_0 (by decide)) rfl (show vp_in _ 64 from vp_in_nI (show n < 64 by omega) (by decide)) ?_
            first | refine k_iinc1 d_B_makeSums_95 rfl ?_ | refine k_iinc d_B_makeSums_95 rfl ?_
            refine k_goto (tgt := 75) d_B_makeSums_98 (by decide) ?_
            rw [nI_clamp (by omega), cMi_s hn]
            exact ih
        · skip
          refine k_iload_n d_B_makeSums_75 rfl rfl ?_
          refine k_aload_n d_B_makeSums_76 rfl rfl ?_
          refine k_getR d_B_makeSums_77 fB_13 rfl (al_0 (by decide)) rfl rfl ?_
          refine k_alen d_B_makeSums_80 (al_0 (by decide)) rfl (show lnI g 9 = 64 from rfl) ?_
          refine k_icmp_ge (tgt := 101) d_B_makeSums_81 (by decide) (fun c_81 => ?_) (fun c_81 => ?_)
          · skip
            refine k_vret d_B_makeSums_101 rfl ?_
            exact ⟨rfl, rfl, rfl⟩
          · exact absurd (nI_le (Nat.le_refl 64) (by decide)) c_81
      · exact absurd (nI_le (Nat.le_refl 8) (by decide)) c_47

