def TapeA (h : Mem) (tp ba : Nat) : Prop := mK h tp = 6 ∧ mR h tp 0 = some ba ∧ mK h ba = 12 ∧ mL h ba = 4000
theorem T_next {s0 : State} {l : Launch} {h : Mem} {tp ba : Nat} (ht : TapeA h tp ba) (hi : vp_in (mI h tp 2 >>> (3 &&& 31)) (mL h ba)) : CQ s0 l M_T_next [.ref tp] h (fun o h1 => True) := by
  refine c_in (by decide) rfl rfl (Nat.le_of_ble_eq_true rfl) ?_
  refine q_aload_n d_T_next_0 rfl rfl ?_
  refine q_getI d_T_next_1 fT_34 rfl ht.1 ?_
  refine q_aload_n d_T_next_4 rfl rfl ?_
  refine q_getI d_T_next_5 fT_19 rfl ht.1 ?_
  refine q_icmp_lt (tgt := 27) d_T_next_8 (by decide) (fun c_8 => ?_) (fun c_8 => ?_)
  · skip
    refine q_aload_n d_T_next_27 rfl rfl ?_
    refine q_getR d_T_next_28 fT_11 rfl ht.1 ht.2.1 ?_
    refine q_aload_n d_T_next_31 rfl rfl ?_
    refine q_getI d_T_next_32 fT_34 rfl ht.1 ?_
    refine q_iconst d_T_next_35 rfl ?_
    refine q_ishr d_T_next_36 ?_
    refine q_baload d_T_next_37 ht.2.2.1 hi ?_
    refine q_bipush d_T_next_38 rfl ?_
    refine q_aload_n d_T_next_40 rfl rfl ?_
    refine q_getI d_T_next_41 fT_34 rfl ht.1 ?_
    refine q_bipush d_T_next_44 rfl ?_
    refine q_iand d_T_next_46 ?_
    refine q_isub d_T_next_47 ?_
    refine q_ishr d_T_next_48 ?_
    refine q_iconst d_T_next_49 rfl ?_
    refine q_iand d_T_next_50 ?_
    refine q_istore_n d_T_next_51 rfl (Nat.le_of_ble_eq_true rfl) ?_
    refine q_aload_n d_T_next_52 rfl rfl ?_
    refine q_dup d_T_next_53 rfl ?_
    refine q_getI d_T_next_54 fT_34 rfl ht.1 ?_
    refine q_iconst d_T_next_57 rfl ?_
    refine q_iadd d_T_next_58 ?_
    refine q_putI d_T_next_59 fT_34 rfl ht.1 rfl rfl (Or.inl rfl) ?_
    refine q_iload_n d_T_next_62 rfl rfl ?_
    refine q_iret d_T_next_63 rfl rfl ?_
    sorry
  · skip
    refine q_aload_n d_T_next_11 rfl rfl ?_
    refine q_aload_n d_T_next_12 rfl rfl ?_
    refine q_getI d_T_next_13 fT_19 rfl ht.1 ?_
    refine q_putI d_T_next_16 fT_15 rfl ht.1 rfl rfl (Or.inl rfl) ?_
    refine q_throw d_T_next_19 d_T_next_22 d_T_next_23 d_T_next_26 (by decide) cT_37 w_iniISE w_atISE rfl (Nat.le_of_ble_eq_true rfl) (by decide) ?_
    sorry
