/-! ===== square ===== -/
def fZv (σ : Sg) (n : Nat) : Sg := sa σ 28 (fun j => if j < n then nI 0 else σ 28 j)
theorem fZv_0 {σ : Sg} : fZv σ 0 = σ := sa_self (fun j => by rw [if_neg (by omega)])
theorem fZv_s {σ : Sg} {n : Nat} : su (fZv σ n) 28 n (nI 0) = fZv σ (n + 1) := su_sa (fun j => by
  by_cases e : j = n
  · rw [if_pos (by omega), if_pos e]
  · rw [if_neg e]
    by_cases e2 : j < n
    · rw [if_pos e2, if_pos (by omega)]
    · rw [if_neg e2, if_neg (by omega)])
abbrev rV (σ : Sg) : Sg := f_resetVectors 4 σ
abbrev rD (σ : Sg) : Sg := f_resetDcs 3 σ
theorem kp_rV (σ : Sg) : kp [29] σ (rV σ) := fun k hk j => by
  have h : k ≠ 29 := by simpa using hk
  simp only [rV, f_resetVectors, su_k h]
theorem kp_rD (σ : Sg) : kp [33] σ (rD σ) := fun k hk j => by
  have h : k ≠ 33 := by simpa using hk
  simp only [rD, f_resetDcs, su_k h]
def sqE (mv : Int32) (σ : Sg) : Sg :=
  if σ 32 0 = 0 then (if σ 34 0 = nI 2 then (if mv = 0 then rV (rD (su (su σ 24 0 (σ 24 0 + nI 1)) 40 0 (σ 40 0 + nI 0))) else rD (su (su σ 24 0 (σ 24 0 + nI 1)) 40 0 (σ 40 0 + nI 0))) else rD (su (su σ 24 0 (σ 24 0 + nI 1)) 40 0 (σ 40 0 + nI 0)))
  else rV (su (su σ 24 0 (σ 24 0 + nI 1)) 40 0 (σ 40 0 + nI 1))
def sqF (A B s : Nat) (σ : Sg) : Sg := if σ 32 0 = 0 then fT σ A B s else σ
def sqD (A B s : Nat) (mv wh : Int32) (σ : Sg) : Int32 × Sg := if 0 ≤ σ 6 0 then (nI 0, σ) else
  if (fAB A B s wh 6 0 (sqF A B s σ)).1 = 0 then (nI 0, (fAB A B s wh 6 0 (sqF A B s σ)).2) else (nI 1, sqE mv (fAB A B s wh 6 0 (sqF A B s σ)).2)
def sqC (A B s : Nat) (mv cd : Int32) (σ : Sg) : Int32 × Sg := if σ 32 0 = 0 then (if cd = 0 then sqD A B s mv (nI 0) σ else sqD A B s mv (fNum 6 0 σ).1 (fNum 6 0 σ).2) else sqD A B s mv (nI 63) σ
def sqB (A B s : Nat) (mv cd : Int32) (σ : Sg) : Int32 × Sg := if σ 31 0 = 0 then sqC A B s mv cd σ else if (fVc (vr σ) 2 2 σ).1 = 0 then (nI 0, (fVc (vr σ) 2 2 σ).2) else sqC A B s mv cd (fVc (vr σ) 2 2 σ).2
def sqV (A B s : Nat) (mv cd : Int32) (σ : Sg) : Int32 × Sg := if (fVc (vr σ) 2 0 σ).1 = 0 then (nI 0, (fVc (vr σ) 2 0 σ).2) else sqB A B s mv cd (fVc (vr σ) 2 0 σ).2
def sqA (A B s : Nat) (mv cd : Int32) (σ : Sg) : Int32 × Sg := if σ 34 0 = nI 2 then (if mv = 0 then sqB A B s mv cd σ else sqV A B s mv cd σ) else (if σ 30 0 = 0 then sqB A B s mv cd σ else sqV A B s mv cd σ)
def sq9 (A B s : Nat) (mv cd : Int32) (σ : Sg) : Int32 × Sg := if 0 ≤ σ 6 0 then (nI 0, σ) else sqA A B s mv cd (fZv σ 4)
def sq8 (A B s : Nat) (mv cd : Int32) (σ : Sg) : Int32 × Sg := if cd = 0 then sq9 A B s mv cd σ else if (fBit σ).1 = nI 1 then sq9 A B s mv cd (su (fNA 5 (fBit σ).2).2 35 0 (fNA 5 (fBit σ).2).1) else sq9 A B s mv cd (fBit σ).2
def sq7 (A B s : Nat) (mv : Int32) (σ : Sg) : Int32 × Sg := if σ 32 0 = 0 then (if (fBit σ).1 = nI 1 then sq8 A B s mv (nI 1) (fBit σ).2 else sq8 A B s mv (nI 0) (fBit σ).2) else sq8 A B s mv (nI 1) σ
def b01 (x : Int32) : Int32 := if x = nI 1 then nI 1 else nI 0
def sqW (σ : Sg) : Sg := su (fBit (su (fBit σ).2 30 0 (b01 (fBit σ).1))).2 31 0 (b01 (fBit (su (fBit σ).2 30 0 (b01 (fBit σ).1))).1)
def sq6 (A B s : Nat) (σ : Sg) : Int32 × Sg := if σ 32 0 = 0 then (if σ 34 0 = nI 2 then sq7 A B s (b01 (fBit σ).1) (su (fBit σ).2 30 0 (nI 1)) else
   if 0 ≤ sqW σ 6 0 then sq7 A B s (nI 0) (sqW σ) else if sqW σ 30 0 = 0 then (if sqW σ 31 0 = 0 then (nI 0, fW (sqW σ) (sqW σ 4 0 - nI 1)) else sq7 A B s (nI 0) (sqW σ)) else sq7 A B s (nI 0) (sqW σ))
   else sq7 A B s (nI 0) σ
def sqI (σ : Sg) (v : Int32) : Sg := su (su (su σ 32 0 v) 30 0 (nI 0)) 31 0 (nI 0)
def fSq (A B s : Nat) (σ : Sg) : Int32 × Sg := if σ 34 0 = nI 1 then sq6 A B s (sqI σ (nI 1)) else sq6 A B s (sqI (fBit σ).2 (b01 (fBit σ).1))
theorem b01_1 {x : Int32} (h : x = nI 1) : nI 1 = b01 x := (if_pos h).symm
theorem b01_0 {x : Int32} (h : ¬ x = nI 1) : nI 0 = b01 x := (if_neg h).symm
theorem b01_b {x : Int32} : b01 x = nI 0 ∨ b01 x = nI 1 := by
  unfold b01
  split
  · exact Or.inr rfl
  · exact Or.inl rfl

theorem m_sq_E {s0 : State} {l : Launch} {hB : Mem} {m s : Nat} {σ : Sg} {mv cd wh : Int32} : GQ s0 l M_M_square hB m 335 [some (.ref m), some (.int (nI s)), some (.int mv), some (.int cd), some (.int wh)] [] σ (fun r σ' => r = some (.int (nI 1)) ∧ σ' = sqE mv σ) := by
  refine g_aload_n d_M_square_335 rfl rfl ?_
  refine g_dup d_M_square_336 rfl ?_
  refine g_get d_M_square_337 fM_181 rfl ?_
  refine g_iconst (v := nI 1) d_M_square_340 (by decide) ?_
  refine g_iadd d_M_square_341 ?_
  refine g_put d_M_square_342 fM_181 rfl rfl rfl rfl ?_
  refine g_aload_n d_M_square_345 rfl rfl ?_
  refine g_dup d_M_square_346 rfl ?_
  refine g_get d_M_square_347 fM_184 rfl ?_
  refine g_aload_n d_M_square_350 rfl rfl ?_
  refine g_get d_M_square_351 fM_132 rfl ?_
  refine g_if_eq (tgt := 361) d_M_square_354 (by decide) (fun c_354 => ?_) (fun c_354 => ?_)
  · skip
    refine g_iconst (v := nI 0) d_M_square_361 (by decide) ?_
    refine g_iadd d_M_square_362 ?_
    refine g_put d_M_square_363 fM_184 rfl rfl rfl rfl ?_
    refine g_aload_n d_M_square_366 rfl rfl ?_
    refine g_get d_M_square_367 fM_132 rfl ?_
    refine g_if_ne (tgt := 377) d_M_square_370 (by decide) (fun c_370 => ?_) (fun c_370 => ?_)
    · skip
      refine g_aload_n d_M_square_377 rfl rfl ?_
      refine g_get d_M_square_378 fM_132 rfl ?_
      refine g_if_ne (tgt := 396) d_M_square_381 (by decide) (fun c_381 => ?_) (fun c_381 => ?_)
      · skip
        refine g_aload_n d_M_square_396 rfl rfl ?_
        refine g_callv (As := []) d_M_square_397 lM_190 mv_M_resetVectors rfl rfl rfl (Nat.le_of_ble_eq_true rfl) (by decide) (m_resetVectors) ?_
        refine g_iconst (v := nI 1) d_M_square_400 (by decide) ?_
        refine g_iret d_M_square_401 rfl rfl ?_
        refine ⟨rfl, ?_⟩
        unfold sqE
        first
          | (rw [if_neg (show ¬ σ 32 0 = 0 from c_354)]; first | rfl | exact absurd c_370 c_354 | exact absurd c_381 c_354)
          | (rw [if_pos (show σ 32 0 = 0 from c_354)]
             first
               | exact absurd c_354 c_370
               | exact absurd c_354 c_381
               | (rw [if_neg (show ¬ σ 34 0 = nI 2 from c_389)]; rfl)
               | (rw [if_pos (show σ 34 0 = nI 2 from c_389), if_pos c_393]; rfl)
               | (rw [if_pos (show σ 34 0 = nI 2 from c_389), if_neg c_393]; rfl))
      · skip
        refine g_aload_n d_M_square_384 rfl rfl ?_
        refine g_get d_M_square_385 fM_70 rfl ?_
        refine g_iconst (v := nI 2) d_M_square_388 (by decide) ?_
        refine g_icmp_ne (tgt := 400) d_M_square_389 (by decide) (fun c_389 => ?_) (fun c_389 => ?_)
        · skip
          refine g_iconst (v := nI 1) d_M_square_400 (by decide) ?_
          refine g_iret d_M_square_401 rfl rfl ?_
          refine ⟨rfl, ?_⟩
          unfold sqE
          first
            | (rw [if_neg (show ¬ σ 32 0 = 0 from c_354)]; first | rfl | exact absurd c_370 c_354 | exact absurd c_381 c_354)
            | (rw [if_pos (show σ 32 0 = 0 from c_354)]
               first
                 | exact absurd c_354 c_370
                 | exact absurd c_354 c_381
                 | (rw [if_neg (show ¬ σ 34 0 = nI 2 from c_389)]; rfl)
                 | (rw [if_pos (show σ 34 0 = nI 2 from c_389), if_pos c_393]; rfl)
                 | (rw [if_pos (show σ 34 0 = nI 2 from c_389), if_neg c_393]; rfl))
        · skip
          refine g_iload_n d_M_square_392 rfl rfl ?_
          refine g_if_ne (tgt := 400) d_M_square_393 (by decide) (fun c_393 => ?_) (fun c_393 => ?_)
          · skip
            refine g_iconst (v := nI 1) d_M_square_400 (by decide) ?_
            refine g_iret d_M_square_401 rfl rfl ?_
            refine ⟨rfl, ?_⟩
            unfold sqE
            first
              | (rw [if_neg (show ¬ σ 32 0 = 0 from c_354)]; first | rfl | exact absurd c_370 c_354 | exact absurd c_381 c_354)
              | (rw [if_pos (show σ 32 0 = 0 from c_354)]
                 first
                   | exact absurd c_354 c_370
                   | exact absurd c_354 c_381
                   | (rw [if_neg (show ¬ σ 34 0 = nI 2 from c_389)]; rfl)
                   | (rw [if_pos (show σ 34 0 = nI 2 from c_389), if_pos c_393]; rfl)
                   | (rw [if_pos (show σ 34 0 = nI 2 from c_389), if_neg c_393]; rfl))
          · skip
            refine g_aload_n d_M_square_396 rfl rfl ?_
            refine g_callv (As := []) d_M_square_397 lM_190 mv_M_resetVectors rfl rfl rfl (Nat.le_of_ble_eq_true rfl) (by decide) (m_resetVectors) ?_
            refine g_iconst (v := nI 1) d_M_square_400 (by decide) ?_
            refine g_iret d_M_square_401 rfl rfl ?_
            refine ⟨rfl, ?_⟩
            unfold sqE
            first
              | (rw [if_neg (show ¬ σ 32 0 = 0 from c_354)]; first | rfl | exact absurd c_370 c_354 | exact absurd c_381 c_354)
              | (rw [if_pos (show σ 32 0 = 0 from c_354)]
                 first
                   | exact absurd c_354 c_370
                   | exact absurd c_354 c_381
                   | (rw [if_neg (show ¬ σ 34 0 = nI 2 from c_389)]; rfl)
                   | (rw [if_pos (show σ 34 0 = nI 2 from c_389), if_pos c_393]; rfl)
                   | (rw [if_pos (show σ 34 0 = nI 2 from c_389), if_neg c_393]; rfl))
    · skip
      refine g_aload_n d_M_square_373 rfl rfl ?_
      refine g_callv (As := []) d_M_square_374 lM_187 mv_M_resetDcs rfl rfl rfl (Nat.le_of_ble_eq_true rfl) (by decide) (m_resetDcs) ?_
      refine g_aload_n d_M_square_377 rfl rfl ?_
      refine g_get d_M_square_378 fM_132 rfl ?_
      refine g_if_ne (tgt := 396) d_M_square_381 (by decide) (fun c_381 => ?_) (fun c_381 => ?_)
      · skip
        refine g_aload_n d_M_square_396 rfl rfl ?_
        refine g_callv (As := []) d_M_square_397 lM_190 mv_M_resetVectors rfl rfl rfl (Nat.le_of_ble_eq_true rfl) (by decide) (m_resetVectors) ?_
        refine g_iconst (v := nI 1) d_M_square_400 (by decide) ?_
        refine g_iret d_M_square_401 rfl rfl ?_
        refine ⟨rfl, ?_⟩
        unfold sqE
        first
          | (rw [if_neg (show ¬ σ 32 0 = 0 from c_354)]; first | rfl | exact absurd c_370 c_354 | exact absurd c_381 c_354)
          | (rw [if_pos (show σ 32 0 = 0 from c_354)]
             first
               | exact absurd c_354 c_370
               | exact absurd c_354 c_381
               | (rw [if_neg (show ¬ σ 34 0 = nI 2 from c_389)]; rfl)
               | (rw [if_pos (show σ 34 0 = nI 2 from c_389), if_pos c_393]; rfl)
               | (rw [if_pos (show σ 34 0 = nI 2 from c_389), if_neg c_393]; rfl))
      · skip
        refine g_aload_n d_M_square_384 rfl rfl ?_
        refine g_get d_M_square_385 fM_70 rfl ?_
        refine g_iconst (v := nI 2) d_M_square_388 (by decide) ?_
        refine g_icmp_ne (tgt := 400) d_M_square_389 (by decide) (fun c_389 => ?_) (fun c_389 => ?_)
        · skip
          refine g_iconst (v := nI 1) d_M_square_400 (by decide) ?_
          refine g_iret d_M_square_401 rfl rfl ?_
          refine ⟨rfl, ?_⟩
          unfold sqE
          first
            | (rw [if_neg (show ¬ σ 32 0 = 0 from c_354)]; first | rfl | exact absurd c_370 c_354 | exact absurd c_381 c_354)
            | (rw [if_pos (show σ 32 0 = 0 from c_354)]
               first
                 | exact absurd c_354 c_370
                 | exact absurd c_354 c_381
                 | (rw [if_neg (show ¬ σ 34 0 = nI 2 from c_389)]; rfl)
                 | (rw [if_pos (show σ 34 0 = nI 2 from c_389), if_pos c_393]; rfl)
                 | (rw [if_pos (show σ 34 0 = nI 2 from c_389), if_neg c_393]; rfl))
        · skip
          refine g_iload_n d_M_square_392 rfl rfl ?_
          refine g_if_ne (tgt := 400) d_M_square_393 (by decide) (fun c_393 => ?_) (fun c_393 => ?_)
          · skip
            refine g_iconst (v := nI 1) d_M_square_400 (by decide) ?_
            refine g_iret d_M_square_401 rfl rfl ?_
            refine ⟨rfl, ?_⟩
            unfold sqE
            first
              | (rw [if_neg (show ¬ σ 32 0 = 0 from c_354)]; first | rfl | exact absurd c_370 c_354 | exact absurd c_381 c_354)
              | (rw [if_pos (show σ 32 0 = 0 from c_354)]
                 first
                   | exact absurd c_354 c_370
                   | exact absurd c_354 c_381
                   | (rw [if_neg (show ¬ σ 34 0 = nI 2 from c_389)]; rfl)
                   | (rw [if_pos (show σ 34 0 = nI 2 from c_389), if_pos c_393]; rfl)
                   | (rw [if_pos (show σ 34 0 = nI 2 from c_389), if_neg c_393]; rfl))
          · skip
            refine g_aload_n d_M_square_396 rfl rfl ?_
            refine g_callv (As := []) d_M_square_397 lM_190 mv_M_resetVectors rfl rfl rfl (Nat.le_of_ble_eq_true rfl) (by decide) (m_resetVectors) ?_
            refine g_iconst (v := nI 1) d_M_square_400 (by decide) ?_
            refine g_iret d_M_square_401 rfl rfl ?_
            refine ⟨rfl, ?_⟩
            unfold sqE
            first
              | (rw [if_neg (show ¬ σ 32 0 = 0 from c_354)]; first | rfl | exact absurd c_370 c_354 | exact absurd c_381 c_354)
              | (rw [if_pos (show σ 32 0 = 0 from c_354)]
                 first
                   | exact absurd c_354 c_370
                   | exact absurd c_354 c_381
                   | (rw [if_neg (show ¬ σ 34 0 = nI 2 from c_389)]; rfl)
                   | (rw [if_pos (show σ 34 0 = nI 2 from c_389), if_pos c_393]; rfl)
                   | (rw [if_pos (show σ 34 0 = nI 2 from c_389), if_neg c_393]; rfl))
  · skip
    refine g_iconst (v := nI 1) d_M_square_357 (by decide) ?_
    refine g_goto (tgt := 362) d_M_square_358 (by decide) ?_
    refine g_iadd d_M_square_362 ?_
    refine g_put d_M_square_363 fM_184 rfl rfl rfl rfl ?_
    refine g_aload_n d_M_square_366 rfl rfl ?_
    refine g_get d_M_square_367 fM_132 rfl ?_
    refine g_if_ne (tgt := 377) d_M_square_370 (by decide) (fun c_370 => ?_) (fun c_370 => ?_)
    · skip
      refine g_aload_n d_M_square_377 rfl rfl ?_
      refine g_get d_M_square_378 fM_132 rfl ?_
      refine g_if_ne (tgt := 396) d_M_square_381 (by decide) (fun c_381 => ?_) (fun c_381 => ?_)
      · skip
        refine g_aload_n d_M_square_396 rfl rfl ?_
        refine g_callv (As := []) d_M_square_397 lM_190 mv_M_resetVectors rfl rfl rfl (Nat.le_of_ble_eq_true rfl) (by decide) (m_resetVectors) ?_
        refine g_iconst (v := nI 1) d_M_square_400 (by decide) ?_
        refine g_iret d_M_square_401 rfl rfl ?_
        refine ⟨rfl, ?_⟩
        unfold sqE
        first
          | (rw [if_neg (show ¬ σ 32 0 = 0 from c_354)]; first | rfl | exact absurd c_370 c_354 | exact absurd c_381 c_354)
          | (rw [if_pos (show σ 32 0 = 0 from c_354)]
             first
               | exact absurd c_354 c_370
               | exact absurd c_354 c_381
               | (rw [if_neg (show ¬ σ 34 0 = nI 2 from c_389)]; rfl)
               | (rw [if_pos (show σ 34 0 = nI 2 from c_389), if_pos c_393]; rfl)
               | (rw [if_pos (show σ 34 0 = nI 2 from c_389), if_neg c_393]; rfl))
      · skip
        refine g_aload_n d_M_square_384 rfl rfl ?_
        refine g_get d_M_square_385 fM_70 rfl ?_
        refine g_iconst (v := nI 2) d_M_square_388 (by decide) ?_
        refine g_icmp_ne (tgt := 400) d_M_square_389 (by decide) (fun c_389 => ?_) (fun c_389 => ?_)
        · skip
          refine g_iconst (v := nI 1) d_M_square_400 (by decide) ?_
          refine g_iret d_M_square_401 rfl rfl ?_
          refine ⟨rfl, ?_⟩
          unfold sqE
          first
            | (rw [if_neg (show ¬ σ 32 0 = 0 from c_354)]; first | rfl | exact absurd c_370 c_354 | exact absurd c_381 c_354)
            | (rw [if_pos (show σ 32 0 = 0 from c_354)]
               first
                 | exact absurd c_354 c_370
                 | exact absurd c_354 c_381
                 | (rw [if_neg (show ¬ σ 34 0 = nI 2 from c_389)]; rfl)
                 | (rw [if_pos (show σ 34 0 = nI 2 from c_389), if_pos c_393]; rfl)
                 | (rw [if_pos (show σ 34 0 = nI 2 from c_389), if_neg c_393]; rfl))
        · skip
          refine g_iload_n d_M_square_392 rfl rfl ?_
          refine g_if_ne (tgt := 400) d_M_square_393 (by decide) (fun c_393 => ?_) (fun c_393 => ?_)
          · skip
            refine g_iconst (v := nI 1) d_M_square_400 (by decide) ?_
            refine g_iret d_M_square_401 rfl rfl ?_
            refine ⟨rfl, ?_⟩
            unfold sqE
            first
              | (rw [if_neg (show ¬ σ 32 0 = 0 from c_354)]; first | rfl | exact absurd c_370 c_354 | exact absurd c_381 c_354)
              | (rw [if_pos (show σ 32 0 = 0 from c_354)]
                 first
                   | exact absurd c_354 c_370
                   | exact absurd c_354 c_381
                   | (rw [if_neg (show ¬ σ 34 0 = nI 2 from c_389)]; rfl)
                   | (rw [if_pos (show σ 34 0 = nI 2 from c_389), if_pos c_393]; rfl)
                   | (rw [if_pos (show σ 34 0 = nI 2 from c_389), if_neg c_393]; rfl))
          · skip
            refine g_aload_n d_M_square_396 rfl rfl ?_
            refine g_callv (As := []) d_M_square_397 lM_190 mv_M_resetVectors rfl rfl rfl (Nat.le_of_ble_eq_true rfl) (by decide) (m_resetVectors) ?_
            refine g_iconst (v := nI 1) d_M_square_400 (by decide) ?_
            refine g_iret d_M_square_401 rfl rfl ?_
            refine ⟨rfl, ?_⟩
            unfold sqE
            first
              | (rw [if_neg (show ¬ σ 32 0 = 0 from c_354)]; first | rfl | exact absurd c_370 c_354 | exact absurd c_381 c_354)
              | (rw [if_pos (show σ 32 0 = 0 from c_354)]
                 first
                   | exact absurd c_354 c_370
                   | exact absurd c_354 c_381
                   | (rw [if_neg (show ¬ σ 34 0 = nI 2 from c_389)]; rfl)
                   | (rw [if_pos (show σ 34 0 = nI 2 from c_389), if_pos c_393]; rfl)
                   | (rw [if_pos (show σ 34 0 = nI 2 from c_389), if_neg c_393]; rfl))
    · skip
      refine g_aload_n d_M_square_373 rfl rfl ?_
      refine g_callv (As := []) d_M_square_374 lM_187 mv_M_resetDcs rfl rfl rfl (Nat.le_of_ble_eq_true rfl) (by decide) (m_resetDcs) ?_
      refine g_aload_n d_M_square_377 rfl rfl ?_
      refine g_get d_M_square_378 fM_132 rfl ?_
      refine g_if_ne (tgt := 396) d_M_square_381 (by decide) (fun c_381 => ?_) (fun c_381 => ?_)
      · skip
        refine g_aload_n d_M_square_396 rfl rfl ?_
        refine g_callv (As := []) d_M_square_397 lM_190 mv_M_resetVectors rfl rfl rfl (Nat.le_of_ble_eq_true rfl) (by decide) (m_resetVectors) ?_
        refine g_iconst (v := nI 1) d_M_square_400 (by decide) ?_
        refine g_iret d_M_square_401 rfl rfl ?_
        refine ⟨rfl, ?_⟩
        unfold sqE
        first
          | (rw [if_neg (show ¬ σ 32 0 = 0 from c_354)]; first | rfl | exact absurd c_370 c_354 | exact absurd c_381 c_354)
          | (rw [if_pos (show σ 32 0 = 0 from c_354)]
             first
               | exact absurd c_354 c_370
               | exact absurd c_354 c_381
               | (rw [if_neg (show ¬ σ 34 0 = nI 2 from c_389)]; rfl)
               | (rw [if_pos (show σ 34 0 = nI 2 from c_389), if_pos c_393]; rfl)
               | (rw [if_pos (show σ 34 0 = nI 2 from c_389), if_neg c_393]; rfl))
      · skip
        refine g_aload_n d_M_square_384 rfl rfl ?_
        refine g_get d_M_square_385 fM_70 rfl ?_
        refine g_iconst (v := nI 2) d_M_square_388 (by decide) ?_
        refine g_icmp_ne (tgt := 400) d_M_square_389 (by decide) (fun c_389 => ?_) (fun c_389 => ?_)
        · skip
          refine g_iconst (v := nI 1) d_M_square_400 (by decide) ?_
          refine g_iret d_M_square_401 rfl rfl ?_
          refine ⟨rfl, ?_⟩
          unfold sqE
          first
            | (rw [if_neg (show ¬ σ 32 0 = 0 from c_354)]; first | rfl | exact absurd c_370 c_354 | exact absurd c_381 c_354)
            | (rw [if_pos (show σ 32 0 = 0 from c_354)]
               first
                 | exact absurd c_354 c_370
                 | exact absurd c_354 c_381
                 | (rw [if_neg (show ¬ σ 34 0 = nI 2 from c_389)]; rfl)
                 | (rw [if_pos (show σ 34 0 = nI 2 from c_389), if_pos c_393]; rfl)
                 | (rw [if_pos (show σ 34 0 = nI 2 from c_389), if_neg c_393]; rfl))
        · skip
          refine g_iload_n d_M_square_392 rfl rfl ?_
          refine g_if_ne (tgt := 400) d_M_square_393 (by decide) (fun c_393 => ?_) (fun c_393 => ?_)
          · skip
            refine g_iconst (v := nI 1) d_M_square_400 (by decide) ?_
            refine g_iret d_M_square_401 rfl rfl ?_
            refine ⟨rfl, ?_⟩
            unfold sqE
            first
              | (rw [if_neg (show ¬ σ 32 0 = 0 from c_354)]; first | rfl | exact absurd c_370 c_354 | exact absurd c_381 c_354)
              | (rw [if_pos (show σ 32 0 = 0 from c_354)]
                 first
                   | exact absurd c_354 c_370
                   | exact absurd c_354 c_381
                   | (rw [if_neg (show ¬ σ 34 0 = nI 2 from c_389)]; rfl)
                   | (rw [if_pos (show σ 34 0 = nI 2 from c_389), if_pos c_393]; rfl)
                   | (rw [if_pos (show σ 34 0 = nI 2 from c_389), if_neg c_393]; rfl))
          · skip
            refine g_aload_n d_M_square_396 rfl rfl ?_
            refine g_callv (As := []) d_M_square_397 lM_190 mv_M_resetVectors rfl rfl rfl (Nat.le_of_ble_eq_true rfl) (by decide) (m_resetVectors) ?_
            refine g_iconst (v := nI 1) d_M_square_400 (by decide) ?_
            refine g_iret d_M_square_401 rfl rfl ?_
            refine ⟨rfl, ?_⟩
            unfold sqE
            first
              | (rw [if_neg (show ¬ σ 32 0 = 0 from c_354)]; first | rfl | exact absurd c_370 c_354 | exact absurd c_381 c_354)
              | (rw [if_pos (show σ 32 0 = 0 from c_354)]
                 first
                   | exact absurd c_354 c_370
                   | exact absurd c_354 c_381
                   | (rw [if_neg (show ¬ σ 34 0 = nI 2 from c_389)]; rfl)
                   | (rw [if_pos (show σ 34 0 = nI 2 from c_389), if_pos c_393]; rfl)
                   | (rw [if_pos (show σ 34 0 = nI 2 from c_389), if_neg c_393]; rfl))
theorem m_sq_D {s0 : State} {l : Launch} {hB : Mem} {m A B s : Nat} {σ : Sg} {mv cd wh : Int32} (hD : okD σ A B) (hR : okR σ) (hO : okO σ) (hs : s < A * B) : GQ s0 l M_M_square hB m 302 [some (.ref m), some (.int (nI s)), some (.int mv), some (.int cd), some (.int wh)] [] σ (fun r σ' => r = some (.int (sqD A B s mv wh σ).1) ∧ σ' = (sqD A B s mv wh σ).2) := by
  refine g_aload_n d_M_square_302 rfl rfl ?_
  refine g_get d_M_square_303 fM_7 rfl ?_
  refine g_if_lt (tgt := 311) d_M_square_306 (by decide) (fun c_306 => ?_) (fun c_306 => ?_)
  · skip
    refine g_aload_n d_M_square_311 rfl rfl ?_
    refine g_get d_M_square_312 fM_132 rfl ?_
    refine g_if_ne (tgt := 323) d_M_square_315 (by decide) (fun c_315 => ?_) (fun c_315 => ?_)
    · skip
      have eF : sqF A B s σ = σ := by unfold sqF; first | rw [if_pos c_315] | rw [if_neg c_315]
      have hD2 : okD (σ) A B := hD
      have hR2 : okR (σ) := hR
      have hO2 : okO (σ) := hO
      refine g_aload_n d_M_square_323 rfl rfl ?_
      refine g_iload_n d_M_square_324 rfl rfl ?_
      refine g_iload d_M_square_325 rfl ?_
      refine g_calli (As := [_, _]) d_M_square_327 lM_177 mv_M_allBlocks rfl rfl rfl (Nat.le_of_ble_eq_true rfl) (by decide) (m_allBlocks hD2 hR2 hO2 hs) ?_
      refine g_if_ne (tgt := 335) d_M_square_330 (by decide) (fun c_330 => ?_) (fun c_330 => ?_)
      · skip
        unfold sqD
        rw [if_neg (Int32.not_le.mpr c_306), eF, if_neg c_330]
        exact m_sq_E
      · skip
        refine g_iconst (v := nI 0) d_M_square_333 (by decide) ?_
        refine g_iret d_M_square_334 rfl rfl ?_
        unfold sqD
        rw [if_neg (Int32.not_le.mpr c_306), eF, if_pos c_330]
        exact ⟨rfl, rfl⟩
    · skip
      refine g_aload_n d_M_square_318 rfl rfl ?_
      refine g_iload_n d_M_square_319 rfl rfl ?_
      refine g_callv (As := [_]) d_M_square_320 lM_173 mv_M_foretells rfl rfl rfl (Nat.le_of_ble_eq_true rfl) (by decide) (m_foretells hD hs) ?_
      have eF : sqF A B s σ = fT σ A B s := by unfold sqF; first | rw [if_pos c_315] | rw [if_neg c_315]
      have hD2 : okD (fT σ A B s) A B := hD.kp (kp.sa (S := [9]) (by simp)) (by decide)
      have hR2 : okR (fT σ A B s) := hR.sa (by decide) (by decide) (by decide)
      have hO2 : okO (fT σ A B s) := hO.eq (fun j => rfl)
      refine g_aload_n d_M_square_323 rfl rfl ?_
      refine g_iload_n d_M_square_324 rfl rfl ?_
      refine g_iload d_M_square_325 rfl ?_
      refine g_calli (As := [_, _]) d_M_square_327 lM_177 mv_M_allBlocks rfl rfl rfl (Nat.le_of_ble_eq_true rfl) (by decide) (m_allBlocks hD2 hR2 hO2 hs) ?_
      refine g_if_ne (tgt := 335) d_M_square_330 (by decide) (fun c_330 => ?_) (fun c_330 => ?_)
      · skip
        unfold sqD
        rw [if_neg (Int32.not_le.mpr c_306), eF, if_neg c_330]
        exact m_sq_E
      · skip
        refine g_iconst (v := nI 0) d_M_square_333 (by decide) ?_
        refine g_iret d_M_square_334 rfl rfl ?_
        unfold sqD
        rw [if_neg (Int32.not_le.mpr c_306), eF, if_pos c_330]
        exact ⟨rfl, rfl⟩
  · skip
    refine g_iconst (v := nI 0) d_M_square_309 (by decide) ?_
    refine g_iret d_M_square_310 rfl rfl ?_
    unfold sqD
    rw [if_pos (Int32.not_lt.mp c_306)]
    exact ⟨rfl, rfl⟩
theorem m_sq_C {s0 : State} {l : Launch} {hB : Mem} {m A B s : Nat} {σ : Sg} {mv cd : Int32} {y4 : Option Value} (hD : okD σ A B) (hR : okR σ) (hO : okO σ) (hs : s < A * B) : GQ s0 l M_M_square hB m 274 [some (.ref m), some (.int (nI s)), some (.int mv), some (.int cd), y4] [] σ (fun r σ' => r = some (.int (sqC A B s mv cd σ).1) ∧ σ' = (sqC A B s mv cd σ).2) := by
  refine g_aload_n d_M_square_274 rfl rfl ?_
  refine g_get d_M_square_275 fM_132 rfl ?_
  refine g_if_eq (tgt := 286) d_M_square_278 (by decide) (fun c_278 => ?_) (fun c_278 => ?_)
  · skip
    refine g_iload_n d_M_square_286 rfl rfl ?_
    refine g_if_eq (tgt := 299) d_M_square_287 (by decide) (fun c_287 => ?_) (fun c_287 => ?_)
    · skip
      refine g_iconst (v := nI 0) d_M_square_299 (by decide) ?_
      refine g_istore d_M_square_300 (Nat.le_of_ble_eq_true rfl) ?_
      unfold sqC
      first
        | (rw [if_neg c_278]; exact m_sq_D hD hR hO hs)
        | (rw [if_pos c_278, if_pos c_287]; exact m_sq_D hD hR hO hs)
        | (rw [if_pos c_278, if_neg c_287]; exact m_sq_D (hD.tk (tk_num 6 0 σ)) (hR.num 6 0) (hO.eq (fun j => tk_num 6 0 σ 37 (by decide) (by decide) j)) hs)
    · skip
      refine g_aload_n d_M_square_290 rfl rfl ?_
      refine g_bipush (v := nI 6) d_M_square_291 (by decide) ?_
      refine g_calli (As := [_]) d_M_square_293 lM_28 mv_M_number rfl rfl rfl (Nat.le_of_ble_eq_true rfl) (by decide) (m_number hR.1 (by decide)) ?_
      refine g_goto (tgt := 300) d_M_square_296 (by decide) ?_
      refine g_istore d_M_square_300 (Nat.le_of_ble_eq_true rfl) ?_
      unfold sqC
      first
        | (rw [if_neg c_278]; exact m_sq_D hD hR hO hs)
        | (rw [if_pos c_278, if_pos c_287]; exact m_sq_D hD hR hO hs)
        | (rw [if_pos c_278, if_neg c_287]; exact m_sq_D (hD.tk (tk_num 6 0 σ)) (hR.num 6 0) (hO.eq (fun j => tk_num 6 0 σ 37 (by decide) (by decide) j)) hs)
  · skip
    refine g_bipush (v := nI 63) d_M_square_281 (by decide) ?_
    refine g_goto (tgt := 300) d_M_square_283 (by decide) ?_
    refine g_istore d_M_square_300 (Nat.le_of_ble_eq_true rfl) ?_
    unfold sqC
    first
      | (rw [if_neg c_278]; exact m_sq_D hD hR hO hs)
      | (rw [if_pos c_278, if_pos c_287]; exact m_sq_D hD hR hO hs)
      | (rw [if_pos c_278, if_neg c_287]; exact m_sq_D (hD.tk (tk_num 6 0 σ)) (hR.num 6 0) (hO.eq (fun j => tk_num 6 0 σ 37 (by decide) (by decide) j)) hs)
theorem m_sq_B {s0 : State} {l : Launch} {hB : Mem} {m A B s : Nat} {σ : Sg} {mv cd : Int32} {y4 : Option Value} (hD : okD σ A B) (hR : okR σ) (hO : okO σ) (hs : s < A * B) : GQ s0 l M_M_square hB m 257 [some (.ref m), some (.int (nI s)), some (.int mv), some (.int cd), y4] [] σ (fun r σ' => r = some (.int (sqB A B s mv cd σ).1) ∧ σ' = (sqB A B s mv cd σ).2) := by
  refine g_aload_n d_M_square_257 rfl rfl ?_
  refine g_get d_M_square_258 fM_83 rfl ?_
  refine g_if_eq (tgt := 274) d_M_square_261 (by decide) (fun c_261 => ?_) (fun c_261 => ?_)
  · skip
    unfold sqB
    first
      | (rw [if_pos c_261]; exact m_sq_C hD hR hO hs)
      | (rw [if_neg c_261, if_neg c_269]; exact m_sq_C (hD.kp (kp_vc (r := vr σ) 2 2 σ) (by decide)) (hR.vc 2 2) (hO.kp (kp_vc (r := vr σ) 2 2 σ) (by decide)) hs)
  · skip
    refine g_aload_n d_M_square_264 rfl rfl ?_
    refine g_iconst (v := nI 1) d_M_square_265 (by decide) ?_
    refine g_calli (As := [_]) d_M_square_266 lM_170 mv_M_vector rfl rfl rfl (Nat.le_of_ble_eq_true rfl) (by decide) (m_vector (w := 1) hR (by decide)) ?_
    refine g_if_ne (tgt := 274) d_M_square_269 (by decide) (fun c_269 => ?_) (fun c_269 => ?_)
    · skip
      unfold sqB
      first
        | (rw [if_pos c_261]; exact m_sq_C hD hR hO hs)
        | (rw [if_neg c_261, if_neg c_269]; exact m_sq_C (hD.kp (kp_vc (r := vr σ) 2 2 σ) (by decide)) (hR.vc 2 2) (hO.kp (kp_vc (r := vr σ) 2 2 σ) (by decide)) hs)
    · skip
      refine g_iconst (v := nI 0) d_M_square_272 (by decide) ?_
      refine g_iret d_M_square_273 rfl rfl ?_
      unfold sqB
      rw [if_neg c_261, if_pos c_269]
      exact ⟨rfl, rfl⟩
theorem m_sq_V {s0 : State} {l : Launch} {hB : Mem} {m A B s : Nat} {σ : Sg} {mv cd : Int32} {y4 : Option Value} (hD : okD σ A B) (hR : okR σ) (hO : okO σ) (hs : s < A * B) : GQ s0 l M_M_square hB m 247 [some (.ref m), some (.int (nI s)), some (.int mv), some (.int cd), y4] [] σ (fun r σ' => r = some (.int (sqV A B s mv cd σ).1) ∧ σ' = (sqV A B s mv cd σ).2) := by
  refine g_aload_n d_M_square_247 rfl rfl ?_
  refine g_iconst (v := nI 0) d_M_square_248 (by decide) ?_
  refine g_calli (As := [_]) d_M_square_249 lM_170 mv_M_vector rfl rfl rfl (Nat.le_of_ble_eq_true rfl) (by decide) (m_vector (w := 0) hR (by decide)) ?_
  refine g_if_ne (tgt := 257) d_M_square_252 (by decide) (fun c_252 => ?_) (fun c_252 => ?_)
  · skip
    unfold sqV
    (rw [if_neg c_252]; exact m_sq_B (hD.kp (kp_vc (r := vr σ) 2 0 σ) (by decide)) (hR.vc 2 0) (hO.kp (kp_vc (r := vr σ) 2 0 σ) (by decide)) hs)
  · skip
    refine g_iconst (v := nI 0) d_M_square_255 (by decide) ?_
    refine g_iret d_M_square_256 rfl rfl ?_
    unfold sqV
    rw [if_pos c_252]
    exact ⟨rfl, rfl⟩
theorem m_sq_A {s0 : State} {l : Launch} {hB : Mem} {m A B s : Nat} {σ : Sg} {mv cd : Int32} {y4 : Option Value} (hD : okD σ A B) (hR : okR σ) (hO : okO σ) (hs : s < A * B) : GQ s0 l M_M_square hB m 225 [some (.ref m), some (.int (nI s)), some (.int mv), some (.int cd), y4] [] σ (fun r σ' => r = some (.int (sqA A B s mv cd σ).1) ∧ σ' = (sqA A B s mv cd σ).2) := by
  refine g_aload_n d_M_square_225 rfl rfl ?_
  refine g_get d_M_square_226 fM_70 rfl ?_
  refine g_iconst (v := nI 2) d_M_square_229 (by decide) ?_
  refine g_icmp_ne (tgt := 240) d_M_square_230 (by decide) (fun c_230 => ?_) (fun c_230 => ?_)
  · skip
    refine g_aload_n d_M_square_240 rfl rfl ?_
    refine g_get d_M_square_241 fM_79 rfl ?_
    refine g_if_eq (tgt := 257) d_M_square_244 (by decide) (fun c_244 => ?_) (fun c_244 => ?_)
    · skip
      unfold sqA
      first
        | (rw [if_pos c_230, if_pos c_234]; exact m_sq_B hD hR hO hs)
        | (rw [if_neg c_230, if_pos c_244]; exact m_sq_B hD hR hO hs)
    · skip
      unfold sqA
      first
        | (rw [if_pos c_230, if_neg c_234]; exact m_sq_V hD hR hO hs)
        | (rw [if_neg c_230, if_neg c_244]; exact m_sq_V hD hR hO hs)
  · skip
    refine g_iload_n d_M_square_233 rfl rfl ?_
    refine g_if_eq (tgt := 257) d_M_square_234 (by decide) (fun c_234 => ?_) (fun c_234 => ?_)
    · skip
      unfold sqA
      first
        | (rw [if_pos c_230, if_pos c_234]; exact m_sq_B hD hR hO hs)
        | (rw [if_neg c_230, if_pos c_244]; exact m_sq_B hD hR hO hs)
    · skip
      refine g_goto (tgt := 247) d_M_square_237 (by decide) ?_
      unfold sqA
      first
        | (rw [if_pos c_230, if_neg c_234]; exact m_sq_V hD hR hO hs)
        | (rw [if_neg c_230, if_neg c_244]; exact m_sq_V hD hR hO hs)
theorem m_sq_z {s0 : State} {l : Launch} {hB : Mem} {m s : Nat} {σ : Sg} {P : Option Value → Sg → Prop} {mv cd : Int32} (k : GQ s0 l M_M_square hB m 225 [some (.ref m), some (.int (nI s)), some (.int mv), some (.int cd), some (.int (nI 4))] [] (fZv σ 4) P) : GQ s0 l M_M_square hB m 205 [some (.ref m), some (.int (nI s)), some (.int mv), some (.int cd), some (.int (nI 0))] [] σ P := by
  have key := g_loop (s0 := s0) (l := l) (M := M_M_square) (hB := hB) (m := m) (P := P) (pc := 205) 4 (fun i => fZv σ i) (fun i => [some (.ref m), some (.int (nI s)), some (.int mv), some (.int cd), some (.int (nI i))]) (fun i hi ih => ?_) ?_ 0 (Nat.zero_le _)
  · rw [fZv_0] at key
    exact key
  · skip
    refine g_iload d_M_square_205 rfl ?_
    refine g_iconst (v := nI 4) d_M_square_207 (by decide) ?_
    refine g_icmp_ge (tgt := 225) d_M_square_208 (by decide) (fun c_208 => ?_) (fun c_208 => ?_)
    · exact absurd ((nI_leI (by omega) (by omega)).mp c_208) (by omega)
    · skip
      refine g_aload_n d_M_square_211 rfl rfl ?_
      refine g_getA d_M_square_212 fM_64 (by decide) ?_
      refine g_iload d_M_square_215 rfl ?_
      refine g_iconst (v := nI 0) d_M_square_217 (by decide) ?_
      refine g_iastore (k := 28) d_M_square_218 rfl (by decide) (by decide) rfl (vp_in_nI (show i < 4 from hi) (by decide)) ?_
      first | refine g_iinc1 d_M_square_219 rfl ?_ | refine g_iinc d_M_square_219 rfl ?_
      refine g_goto (tgt := 205) d_M_square_222 (by decide) ?_
      rw [nI_clamp (by omega), fZv_s]
      exact ih
  · skip
    refine g_iload d_M_square_205 rfl ?_
    refine g_iconst (v := nI 4) d_M_square_207 (by decide) ?_
    refine g_icmp_ge (tgt := 225) d_M_square_208 (by decide) (fun c_208 => ?_) (fun c_208 => ?_)
    · skip
      exact k
    · exact absurd (nI_le (Nat.le_refl 4) (by decide)) c_208
theorem m_sq_9 {s0 : State} {l : Launch} {hB : Mem} {m A B s : Nat} {σ : Sg} {mv cd : Int32} {y4 : Option Value} (hD : okD σ A B) (hR : okR σ) (hO : okO σ) (hs : s < A * B) : GQ s0 l M_M_square hB m 193 [some (.ref m), some (.int (nI s)), some (.int mv), some (.int cd), y4] [] σ (fun r σ' => r = some (.int (sq9 A B s mv cd σ).1) ∧ σ' = (sq9 A B s mv cd σ).2) := by
  refine g_aload_n d_M_square_193 rfl rfl ?_
  refine g_get d_M_square_194 fM_7 rfl ?_
  refine g_if_lt (tgt := 202) d_M_square_197 (by decide) (fun c_197 => ?_) (fun c_197 => ?_)
  · skip
    refine g_iconst (v := nI 0) d_M_square_202 (by decide) ?_
    refine g_istore d_M_square_203 (Nat.le_of_ble_eq_true rfl) ?_
    unfold sq9
    rw [if_neg (Int32.not_le.mpr c_197)]
    exact m_sq_z (m_sq_A (hD.kp (kp.sa (S := [28]) (by simp)) (by decide)) (hR.sa (by decide) (by decide) (by decide)) (hO.eq (fun j => rfl)) hs)
  · skip
    refine g_iconst (v := nI 0) d_M_square_200 (by decide) ?_
    refine g_iret d_M_square_201 rfl rfl ?_
    unfold sq9
    rw [if_pos (Int32.not_lt.mp c_197)]
    exact ⟨rfl, rfl⟩
theorem m_sq_8 {s0 : State} {l : Launch} {hB : Mem} {m A B s : Nat} {σ : Sg} {mv cd : Int32} {y4 : Option Value} (hD : okD σ A B) (hR : okR σ) (hO : okO σ) (hs : s < A * B) : GQ s0 l M_M_square hB m 172 [some (.ref m), some (.int (nI s)), some (.int mv), some (.int cd), y4] [] σ (fun r σ' => r = some (.int (sq8 A B s mv cd σ).1) ∧ σ' = (sq8 A B s mv cd σ).2) := by
  refine g_iload_n d_M_square_172 rfl rfl ?_
  refine g_if_eq (tgt := 193) d_M_square_173 (by decide) (fun c_173 => ?_) (fun c_173 => ?_)
  · skip
    unfold sq8
    first
      | (rw [if_pos c_173]; exact m_sq_9 hD hR hO hs)
      | (rw [if_neg c_173, if_neg c_181]; exact m_sq_9 (hD.tk (tk_bit σ)) hR.bit (hO.eq (fun j => tk_bit σ 37 (by decide) (by decide) j)) hs)
      | (rw [if_neg c_173, if_pos c_181]
         have h9 := (tk_bit σ).trans (tk_na 5 (fBit σ).2)
         exact m_sq_9 ((hD.tk h9).kp (kp.su (S := [35]) (by simp)) (by decide)) (hR.bit.na.su (by decide) (by decide) (by decide)) (hO.eq (fun j => h9 37 (by decide) (by decide) j)) hs)
  · skip
    refine g_aload_n d_M_square_176 rfl rfl ?_
    refine g_calli (As := []) d_M_square_177 lM_24 mv_M_bit rfl rfl rfl (Nat.le_of_ble_eq_true rfl) (by decide) (m_bit hR.1) ?_
    refine g_iconst (v := nI 1) d_M_square_180 (by decide) ?_
    refine g_icmp_ne (tgt := 193) d_M_square_181 (by decide) (fun c_181 => ?_) (fun c_181 => ?_)
    · skip
      unfold sq8
      first
        | (rw [if_pos c_173]; exact m_sq_9 hD hR hO hs)
        | (rw [if_neg c_173, if_neg c_181]; exact m_sq_9 (hD.tk (tk_bit σ)) hR.bit (hO.eq (fun j => tk_bit σ 37 (by decide) (by decide) j)) hs)
        | (rw [if_neg c_173, if_pos c_181]
           have h9 := (tk_bit σ).trans (tk_na 5 (fBit σ).2)
           exact m_sq_9 ((hD.tk h9).kp (kp.su (S := [35]) (by simp)) (by decide)) (hR.bit.na.su (by decide) (by decide) (by decide)) (hO.eq (fun j => h9 37 (by decide) (by decide) j)) hs)
    · skip
      refine g_aload_n d_M_square_184 rfl rfl ?_
      refine g_aload_n d_M_square_185 rfl rfl ?_
      refine g_iconst (v := nI 5) d_M_square_186 (by decide) ?_
      refine g_calli (As := [_]) d_M_square_187 lM_167 mv_M_numberAbove rfl rfl rfl (Nat.le_of_ble_eq_true rfl) (by decide) (m_numberAbove hR.bit.1 (by decide)) ?_
      refine g_put d_M_square_190 fM_135 rfl rfl rfl rfl ?_
      unfold sq8
      first
        | (rw [if_pos c_173]; exact m_sq_9 hD hR hO hs)
        | (rw [if_neg c_173, if_neg c_181]; exact m_sq_9 (hD.tk (tk_bit σ)) hR.bit (hO.eq (fun j => tk_bit σ 37 (by decide) (by decide) j)) hs)
        | (rw [if_neg c_173, if_pos c_181]
           have h9 := (tk_bit σ).trans (tk_na 5 (fBit σ).2)
           exact m_sq_9 ((hD.tk h9).kp (kp.su (S := [35]) (by simp)) (by decide)) (hR.bit.na.su (by decide) (by decide) (by decide)) (hO.eq (fun j => h9 37 (by decide) (by decide) j)) hs)
theorem m_sq_7 {s0 : State} {l : Launch} {hB : Mem} {m A B s : Nat} {σ : Sg} {mv : Int32} {y3 y4 : Option Value} (hD : okD σ A B) (hR : okR σ) (hO : okO σ) (hs : s < A * B) : GQ s0 l M_M_square hB m 151 [some (.ref m), some (.int (nI s)), some (.int mv), y3, y4] [] σ (fun r σ' => r = some (.int (sq7 A B s mv σ).1) ∧ σ' = (sq7 A B s mv σ).2) := by
  refine g_aload_n d_M_square_151 rfl rfl ?_
  refine g_get d_M_square_152 fM_132 rfl ?_
  refine g_if_ne (tgt := 166) d_M_square_155 (by decide) (fun c_155 => ?_) (fun c_155 => ?_)
  · skip
    refine g_iconst (v := nI 1) d_M_square_166 (by decide) ?_
    refine g_goto (tgt := 171) d_M_square_167 (by decide) ?_
    refine g_istore_n d_M_square_171 rfl (Nat.le_of_ble_eq_true rfl) ?_
    unfold sq7
    first
      | (rw [if_neg c_155]; exact m_sq_8 hD hR hO hs)
      | (rw [if_pos c_155, if_pos c_163]; exact m_sq_8 (hD.tk (tk_bit σ)) hR.bit (hO.eq (fun j => tk_bit σ 37 (by decide) (by decide) j)) hs)
      | (rw [if_pos c_155, if_neg c_163]; exact m_sq_8 (hD.tk (tk_bit σ)) hR.bit (hO.eq (fun j => tk_bit σ 37 (by decide) (by decide) j)) hs)
  · skip
    refine g_aload_n d_M_square_158 rfl rfl ?_
    refine g_calli (As := []) d_M_square_159 lM_24 mv_M_bit rfl rfl rfl (Nat.le_of_ble_eq_true rfl) (by decide) (m_bit hR.1) ?_
    refine g_iconst (v := nI 1) d_M_square_162 (by decide) ?_
    refine g_icmp_ne (tgt := 170) d_M_square_163 (by decide) (fun c_163 => ?_) (fun c_163 => ?_)
    · skip
      refine g_iconst (v := nI 0) d_M_square_170 (by decide) ?_
      refine g_istore_n d_M_square_171 rfl (Nat.le_of_ble_eq_true rfl) ?_
      unfold sq7
      first
        | (rw [if_neg c_155]; exact m_sq_8 hD hR hO hs)
        | (rw [if_pos c_155, if_pos c_163]; exact m_sq_8 (hD.tk (tk_bit σ)) hR.bit (hO.eq (fun j => tk_bit σ 37 (by decide) (by decide) j)) hs)
        | (rw [if_pos c_155, if_neg c_163]; exact m_sq_8 (hD.tk (tk_bit σ)) hR.bit (hO.eq (fun j => tk_bit σ 37 (by decide) (by decide) j)) hs)
    · skip
      refine g_iconst (v := nI 1) d_M_square_166 (by decide) ?_
      refine g_goto (tgt := 171) d_M_square_167 (by decide) ?_
      refine g_istore_n d_M_square_171 rfl (Nat.le_of_ble_eq_true rfl) ?_
      unfold sq7
      first
        | (rw [if_neg c_155]; exact m_sq_8 hD hR hO hs)
        | (rw [if_pos c_155, if_pos c_163]; exact m_sq_8 (hD.tk (tk_bit σ)) hR.bit (hO.eq (fun j => tk_bit σ 37 (by decide) (by decide) j)) hs)
        | (rw [if_pos c_155, if_neg c_163]; exact m_sq_8 (hD.tk (tk_bit σ)) hR.bit (hO.eq (fun j => tk_bit σ 37 (by decide) (by decide) j)) hs)
theorem fld32 {σ : Sg} : (fBit σ).2 32 0 = σ 32 0 := tk_bit σ 32 (by decide) (by decide) 0
theorem g_putb {s0 : State} {l : Launch} {M : MI} {hB : Mem} {m pc : Nat} {L : List (Option Value)} {st : List Value} {σ : Sg} {P : Option Value → Sg → Prop} {idx k : Nat} {x : Int32} (hd : decode (iC M) pc = .ok (.putfield idx, 3)) (hf : FL (iY M).cls idx 7 k) (hs : aOff k = 0) (hx : x = nI 0 ∨ x = nI 1) (hy : cY 7 k = .boolean) (hfin : (cT 7 k).2.2.2 = false) (kk : GQ s0 l M hB m (pc + 3) L st (su σ k 0 x) P) : GQ s0 l M hB m pc L (.int x :: .ref m :: st) σ P := by
  refine g_put hd hf hs ?_ ?_ hfin kk
  · rw [hy]
    exact nar01 hx
  · rw [hy]
    rcases hx with rfl | rfl <;> rfl
theorem m_sq_6 {s0 : State} {l : Launch} {hB : Mem} {m A B s : Nat} {σ : Sg} {y3 y4 : Option Value} (hD : okD σ A B) (hR : okR σ) (hO : okO σ) (hs : s < A * B) : GQ s0 l M_M_square hB m 37 [some (.ref m), some (.int (nI s)), some (.int (nI 0)), y3, y4] [] σ (fun r σ' => r = some (.int (sq6 A B s σ).1) ∧ σ' = (sq6 A B s σ).2) := by
  refine g_aload_n d_M_square_37 rfl rfl ?_
  refine g_get d_M_square_38 fM_132 rfl ?_
  refine g_if_ne (tgt := 74) d_M_square_41 (by decide) (fun c_41 => ?_) (fun c_41 => ?_)
  · skip
    refine g_aload_n d_M_square_74 rfl rfl ?_
    refine g_get d_M_square_75 fM_132 rfl ?_
    refine g_if_ne (tgt := 151) d_M_square_78 (by decide) (fun c_78 => ?_) (fun c_78 => ?_)
    · skip
      unfold sq6
      first
        | (rw [if_pos c_41, if_pos c_49]; exact m_sq_7 ((hD.tk (tk_bit σ)).kp (kp.su (S := [30]) (by simp)) (by decide)) (hR.bit.su (by decide) (by decide) (by decide)) (hO.eq (fun j => tk_bit σ 37 (by decide) (by decide) j)) hs)
        | (rw [if_neg c_41]; exact m_sq_7 hD hR hO hs)
        | (rw [if_pos c_41, if_neg c_49, if_pos c_119]; exact m_sq_7 hDw hRw hOw hs)
        | (rw [if_pos c_41, if_neg c_49, if_neg c_119, if_neg c_126]; exact m_sq_7 hDw hRw hOw hs)
        | (rw [if_pos c_41, if_neg c_49, if_neg c_119, if_pos c_126, if_neg c_133]; exact m_sq_7 hDw hRw hOw hs)
    · exact absurd c_78 c_41
  · skip
    refine g_aload_n d_M_square_44 rfl rfl ?_
    refine g_get d_M_square_45 fM_70 rfl ?_
    refine g_iconst (v := nI 2) d_M_square_48 (by decide) ?_
    refine g_icmp_ne (tgt := 74) d_M_square_49 (by decide) (fun c_49 => ?_) (fun c_49 => ?_)
    · skip
      refine g_aload_n d_M_square_74 rfl rfl ?_
      refine g_get d_M_square_75 fM_132 rfl ?_
      refine g_if_ne (tgt := 151) d_M_square_78 (by decide) (fun c_78 => ?_) (fun c_78 => ?_)
      · exact absurd c_41 c_78
      · skip
        refine g_aload_n d_M_square_81 rfl rfl ?_
        refine g_aload_n d_M_square_82 rfl rfl ?_
        refine g_calli (As := []) d_M_square_83 lM_24 mv_M_bit rfl rfl rfl (Nat.le_of_ble_eq_true rfl) (by decide) (m_bit hR.1) ?_
        refine g_iconst (v := nI 1) d_M_square_86 (by decide) ?_
        refine g_icmp_ne (tgt := 94) d_M_square_87 (by decide) (fun c_87 => ?_) (fun c_87 => ?_)
        · skip
          refine g_iconst (v := nI 0) d_M_square_94 (by decide) ?_
          first | refine g_top (b01_1 c_87) ?_ | refine g_top (b01_0 c_87) ?_
          refine g_putb d_M_square_95 fM_79 rfl b01_b rfl rfl ?_
          refine g_aload_n d_M_square_98 rfl rfl ?_
          refine g_aload_n d_M_square_99 rfl rfl ?_
          refine g_calli (As := []) d_M_square_100 lM_24 mv_M_bit rfl rfl rfl (Nat.le_of_ble_eq_true rfl) (by decide) (m_bit (hR.bit.su (by decide) (by decide) (by decide)).1) ?_
          refine g_iconst (v := nI 1) d_M_square_103 (by decide) ?_
          refine g_icmp_ne (tgt := 111) d_M_square_104 (by decide) (fun c_104 => ?_) (fun c_104 => ?_)
          · skip
            refine g_iconst (v := nI 0) d_M_square_111 (by decide) ?_
            first | refine g_top (b01_1 c_104) ?_ | refine g_top (b01_0 c_104) ?_
            refine g_putb d_M_square_112 fM_83 rfl b01_b rfl rfl ?_
            have hDw : okD (sqW σ) A B := (((hD.tk (tk_bit σ)).kp (kp.su (S := [30]) (by simp)) (by decide)).tk (tk_bit _)).kp (kp.su (S := [31]) (by simp)) (by decide)
            have hRw : okR (sqW σ) := (hR.bit.su (by decide) (by decide) (by decide)).bit.su (by decide) (by decide) (by decide)
            have hOw : okO (sqW σ) := hO.eq (fun j => ((tk_bit (su (fBit σ).2 30 0 (b01 (fBit σ).1))) 37 (by decide) (by decide) j).trans (tk_bit σ 37 (by decide) (by decide) j))
            refine g_st (τ := sqW σ) rfl ?_
            refine g_aload_n d_M_square_115 rfl rfl ?_
            refine g_get d_M_square_116 fM_7 rfl ?_
            refine g_if_ge (tgt := 151) d_M_square_119 (by decide) (fun c_119 => ?_) (fun c_119 => ?_)
            · skip
              unfold sq6
              first
                | (rw [if_pos c_41, if_pos c_49]; exact m_sq_7 ((hD.tk (tk_bit σ)).kp (kp.su (S := [30]) (by simp)) (by decide)) (hR.bit.su (by decide) (by decide) (by decide)) (hO.eq (fun j => tk_bit σ 37 (by decide) (by decide) j)) hs)
                | (rw [if_neg c_41]; exact m_sq_7 hD hR hO hs)
                | (rw [if_pos c_41, if_neg c_49, if_pos c_119]; exact m_sq_7 hDw hRw hOw hs)
                | (rw [if_pos c_41, if_neg c_49, if_neg c_119, if_neg c_126]; exact m_sq_7 hDw hRw hOw hs)
                | (rw [if_pos c_41, if_neg c_49, if_neg c_119, if_pos c_126, if_neg c_133]; exact m_sq_7 hDw hRw hOw hs)
            · skip
              refine g_aload_n d_M_square_122 rfl rfl ?_
              refine g_get d_M_square_123 fM_79 rfl ?_
              refine g_if_ne (tgt := 151) d_M_square_126 (by decide) (fun c_126 => ?_) (fun c_126 => ?_)
              · skip
                unfold sq6
                first
                  | (rw [if_pos c_41, if_pos c_49]; exact m_sq_7 ((hD.tk (tk_bit σ)).kp (kp.su (S := [30]) (by simp)) (by decide)) (hR.bit.su (by decide) (by decide) (by decide)) (hO.eq (fun j => tk_bit σ 37 (by decide) (by decide) j)) hs)
                  | (rw [if_neg c_41]; exact m_sq_7 hD hR hO hs)
                  | (rw [if_pos c_41, if_neg c_49, if_pos c_119]; exact m_sq_7 hDw hRw hOw hs)
                  | (rw [if_pos c_41, if_neg c_49, if_neg c_119, if_neg c_126]; exact m_sq_7 hDw hRw hOw hs)
                  | (rw [if_pos c_41, if_neg c_49, if_neg c_119, if_pos c_126, if_neg c_133]; exact m_sq_7 hDw hRw hOw hs)
              · skip
                refine g_aload_n d_M_square_129 rfl rfl ?_
                refine g_get d_M_square_130 fM_83 rfl ?_
                refine g_if_ne (tgt := 151) d_M_square_133 (by decide) (fun c_133 => ?_) (fun c_133 => ?_)
                · skip
                  unfold sq6
                  first
                    | (rw [if_pos c_41, if_pos c_49]; exact m_sq_7 ((hD.tk (tk_bit σ)).kp (kp.su (S := [30]) (by simp)) (by decide)) (hR.bit.su (by decide) (by decide) (by decide)) (hO.eq (fun j => tk_bit σ 37 (by decide) (by decide) j)) hs)
                    | (rw [if_neg c_41]; exact m_sq_7 hD hR hO hs)
                    | (rw [if_pos c_41, if_neg c_49, if_pos c_119]; exact m_sq_7 hDw hRw hOw hs)
                    | (rw [if_pos c_41, if_neg c_49, if_neg c_119, if_neg c_126]; exact m_sq_7 hDw hRw hOw hs)
                    | (rw [if_pos c_41, if_neg c_49, if_neg c_119, if_pos c_126, if_neg c_133]; exact m_sq_7 hDw hRw hOw hs)
                · skip
                  refine g_aload_n d_M_square_136 rfl rfl ?_
                  refine g_aload_n d_M_square_137 rfl rfl ?_
                  refine g_get d_M_square_138 fM_10 rfl ?_
                  refine g_iconst (v := nI 1) d_M_square_141 (by decide) ?_
                  refine g_isub d_M_square_142 ?_
                  refine g_calli (As := [_]) d_M_square_143 lM_16 mv_M_isWrong rfl rfl rfl (Nat.le_of_ble_eq_true rfl) (by decide) (m_isWrong) ?_
                  refine g_if_eq (tgt := 151) d_M_square_146 (by decide) (fun c_146 => ?_) (fun c_146 => ?_)
                  · exact absurd c_146 (by decide)
                  · skip
                    refine g_iconst (v := nI 0) d_M_square_149 (by decide) ?_
                    refine g_iret d_M_square_150 rfl rfl ?_
                    unfold sq6
                    rw [if_pos c_41, if_neg c_49, if_neg c_119, if_pos c_126, if_pos c_133]
                    exact ⟨rfl, rfl⟩
          · skip
            refine g_iconst (v := nI 1) d_M_square_107 (by decide) ?_
            refine g_goto (tgt := 112) d_M_square_108 (by decide) ?_
            first | refine g_top (b01_1 c_104) ?_ | refine g_top (b01_0 c_104) ?_
            refine g_putb d_M_square_112 fM_83 rfl b01_b rfl rfl ?_
            have hDw : okD (sqW σ) A B := (((hD.tk (tk_bit σ)).kp (kp.su (S := [30]) (by simp)) (by decide)).tk (tk_bit _)).kp (kp.su (S := [31]) (by simp)) (by decide)
            have hRw : okR (sqW σ) := (hR.bit.su (by decide) (by decide) (by decide)).bit.su (by decide) (by decide) (by decide)
            have hOw : okO (sqW σ) := hO.eq (fun j => ((tk_bit (su (fBit σ).2 30 0 (b01 (fBit σ).1))) 37 (by decide) (by decide) j).trans (tk_bit σ 37 (by decide) (by decide) j))
            refine g_st (τ := sqW σ) rfl ?_
            refine g_aload_n d_M_square_115 rfl rfl ?_
            refine g_get d_M_square_116 fM_7 rfl ?_
            refine g_if_ge (tgt := 151) d_M_square_119 (by decide) (fun c_119 => ?_) (fun c_119 => ?_)
            · skip
              unfold sq6
              first
                | (rw [if_pos c_41, if_pos c_49]; exact m_sq_7 ((hD.tk (tk_bit σ)).kp (kp.su (S := [30]) (by simp)) (by decide)) (hR.bit.su (by decide) (by decide) (by decide)) (hO.eq (fun j => tk_bit σ 37 (by decide) (by decide) j)) hs)
                | (rw [if_neg c_41]; exact m_sq_7 hD hR hO hs)
                | (rw [if_pos c_41, if_neg c_49, if_pos c_119]; exact m_sq_7 hDw hRw hOw hs)
                | (rw [if_pos c_41, if_neg c_49, if_neg c_119, if_neg c_126]; exact m_sq_7 hDw hRw hOw hs)
                | (rw [if_pos c_41, if_neg c_49, if_neg c_119, if_pos c_126, if_neg c_133]; exact m_sq_7 hDw hRw hOw hs)
            · skip
              refine g_aload_n d_M_square_122 rfl rfl ?_
              refine g_get d_M_square_123 fM_79 rfl ?_
              refine g_if_ne (tgt := 151) d_M_square_126 (by decide) (fun c_126 => ?_) (fun c_126 => ?_)
              · skip
                unfold sq6
                first
                  | (rw [if_pos c_41, if_pos c_49]; exact m_sq_7 ((hD.tk (tk_bit σ)).kp (kp.su (S := [30]) (by simp)) (by decide)) (hR.bit.su (by decide) (by decide) (by decide)) (hO.eq (fun j => tk_bit σ 37 (by decide) (by decide) j)) hs)
                  | (rw [if_neg c_41]; exact m_sq_7 hD hR hO hs)
                  | (rw [if_pos c_41, if_neg c_49, if_pos c_119]; exact m_sq_7 hDw hRw hOw hs)
                  | (rw [if_pos c_41, if_neg c_49, if_neg c_119, if_neg c_126]; exact m_sq_7 hDw hRw hOw hs)
                  | (rw [if_pos c_41, if_neg c_49, if_neg c_119, if_pos c_126, if_neg c_133]; exact m_sq_7 hDw hRw hOw hs)
              · skip
                refine g_aload_n d_M_square_129 rfl rfl ?_
                refine g_get d_M_square_130 fM_83 rfl ?_
                refine g_if_ne (tgt := 151) d_M_square_133 (by decide) (fun c_133 => ?_) (fun c_133 => ?_)
                · skip
                  unfold sq6
                  first
                    | (rw [if_pos c_41, if_pos c_49]; exact m_sq_7 ((hD.tk (tk_bit σ)).kp (kp.su (S := [30]) (by simp)) (by decide)) (hR.bit.su (by decide) (by decide) (by decide)) (hO.eq (fun j => tk_bit σ 37 (by decide) (by decide) j)) hs)
                    | (rw [if_neg c_41]; exact m_sq_7 hD hR hO hs)
                    | (rw [if_pos c_41, if_neg c_49, if_pos c_119]; exact m_sq_7 hDw hRw hOw hs)
                    | (rw [if_pos c_41, if_neg c_49, if_neg c_119, if_neg c_126]; exact m_sq_7 hDw hRw hOw hs)
                    | (rw [if_pos c_41, if_neg c_49, if_neg c_119, if_pos c_126, if_neg c_133]; exact m_sq_7 hDw hRw hOw hs)
                · skip
                  refine g_aload_n d_M_square_136 rfl rfl ?_
                  refine g_aload_n d_M_square_137 rfl rfl ?_
                  refine g_get d_M_square_138 fM_10 rfl ?_
                  refine g_iconst (v := nI 1) d_M_square_141 (by decide) ?_
                  refine g_isub d_M_square_142 ?_
                  refine g_calli (As := [_]) d_M_square_143 lM_16 mv_M_isWrong rfl rfl rfl (Nat.le_of_ble_eq_true rfl) (by decide) (m_isWrong) ?_
                  refine g_if_eq (tgt := 151) d_M_square_146 (by decide) (fun c_146 => ?_) (fun c_146 => ?_)
                  · exact absurd c_146 (by decide)
                  · skip
                    refine g_iconst (v := nI 0) d_M_square_149 (by decide) ?_
                    refine g_iret d_M_square_150 rfl rfl ?_
                    unfold sq6
                    rw [if_pos c_41, if_neg c_49, if_neg c_119, if_pos c_126, if_pos c_133]
                    exact ⟨rfl, rfl⟩
        · skip
          refine g_iconst (v := nI 1) d_M_square_90 (by decide) ?_
          refine g_goto (tgt := 95) d_M_square_91 (by decide) ?_
          first | refine g_top (b01_1 c_87) ?_ | refine g_top (b01_0 c_87) ?_
          refine g_putb d_M_square_95 fM_79 rfl b01_b rfl rfl ?_
          refine g_aload_n d_M_square_98 rfl rfl ?_
          refine g_aload_n d_M_square_99 rfl rfl ?_
          refine g_calli (As := []) d_M_square_100 lM_24 mv_M_bit rfl rfl rfl (Nat.le_of_ble_eq_true rfl) (by decide) (m_bit (hR.bit.su (by decide) (by decide) (by decide)).1) ?_
          refine g_iconst (v := nI 1) d_M_square_103 (by decide) ?_
          refine g_icmp_ne (tgt := 111) d_M_square_104 (by decide) (fun c_104 => ?_) (fun c_104 => ?_)
          · skip
            refine g_iconst (v := nI 0) d_M_square_111 (by decide) ?_
            first | refine g_top (b01_1 c_104) ?_ | refine g_top (b01_0 c_104) ?_
            refine g_putb d_M_square_112 fM_83 rfl b01_b rfl rfl ?_
            have hDw : okD (sqW σ) A B := (((hD.tk (tk_bit σ)).kp (kp.su (S := [30]) (by simp)) (by decide)).tk (tk_bit _)).kp (kp.su (S := [31]) (by simp)) (by decide)
            have hRw : okR (sqW σ) := (hR.bit.su (by decide) (by decide) (by decide)).bit.su (by decide) (by decide) (by decide)
            have hOw : okO (sqW σ) := hO.eq (fun j => ((tk_bit (su (fBit σ).2 30 0 (b01 (fBit σ).1))) 37 (by decide) (by decide) j).trans (tk_bit σ 37 (by decide) (by decide) j))
            refine g_st (τ := sqW σ) rfl ?_
            refine g_aload_n d_M_square_115 rfl rfl ?_
            refine g_get d_M_square_116 fM_7 rfl ?_
            refine g_if_ge (tgt := 151) d_M_square_119 (by decide) (fun c_119 => ?_) (fun c_119 => ?_)
            · skip
              unfold sq6
              first
                | (rw [if_pos c_41, if_pos c_49]; exact m_sq_7 ((hD.tk (tk_bit σ)).kp (kp.su (S := [30]) (by simp)) (by decide)) (hR.bit.su (by decide) (by decide) (by decide)) (hO.eq (fun j => tk_bit σ 37 (by decide) (by decide) j)) hs)
                | (rw [if_neg c_41]; exact m_sq_7 hD hR hO hs)
                | (rw [if_pos c_41, if_neg c_49, if_pos c_119]; exact m_sq_7 hDw hRw hOw hs)
                | (rw [if_pos c_41, if_neg c_49, if_neg c_119, if_neg c_126]; exact m_sq_7 hDw hRw hOw hs)
                | (rw [if_pos c_41, if_neg c_49, if_neg c_119, if_pos c_126, if_neg c_133]; exact m_sq_7 hDw hRw hOw hs)
            · skip
              refine g_aload_n d_M_square_122 rfl rfl ?_
              refine g_get d_M_square_123 fM_79 rfl ?_
              refine g_if_ne (tgt := 151) d_M_square_126 (by decide) (fun c_126 => ?_) (fun c_126 => ?_)
              · skip
                unfold sq6
                first
                  | (rw [if_pos c_41, if_pos c_49]; exact m_sq_7 ((hD.tk (tk_bit σ)).kp (kp.su (S := [30]) (by simp)) (by decide)) (hR.bit.su (by decide) (by decide) (by decide)) (hO.eq (fun j => tk_bit σ 37 (by decide) (by decide) j)) hs)
                  | (rw [if_neg c_41]; exact m_sq_7 hD hR hO hs)
                  | (rw [if_pos c_41, if_neg c_49, if_pos c_119]; exact m_sq_7 hDw hRw hOw hs)
                  | (rw [if_pos c_41, if_neg c_49, if_neg c_119, if_neg c_126]; exact m_sq_7 hDw hRw hOw hs)
                  | (rw [if_pos c_41, if_neg c_49, if_neg c_119, if_pos c_126, if_neg c_133]; exact m_sq_7 hDw hRw hOw hs)
              · skip
                refine g_aload_n d_M_square_129 rfl rfl ?_
                refine g_get d_M_square_130 fM_83 rfl ?_
                refine g_if_ne (tgt := 151) d_M_square_133 (by decide) (fun c_133 => ?_) (fun c_133 => ?_)
                · skip
                  unfold sq6
                  first
                    | (rw [if_pos c_41, if_pos c_49]; exact m_sq_7 ((hD.tk (tk_bit σ)).kp (kp.su (S := [30]) (by simp)) (by decide)) (hR.bit.su (by decide) (by decide) (by decide)) (hO.eq (fun j => tk_bit σ 37 (by decide) (by decide) j)) hs)
                    | (rw [if_neg c_41]; exact m_sq_7 hD hR hO hs)
                    | (rw [if_pos c_41, if_neg c_49, if_pos c_119]; exact m_sq_7 hDw hRw hOw hs)
                    | (rw [if_pos c_41, if_neg c_49, if_neg c_119, if_neg c_126]; exact m_sq_7 hDw hRw hOw hs)
                    | (rw [if_pos c_41, if_neg c_49, if_neg c_119, if_pos c_126, if_neg c_133]; exact m_sq_7 hDw hRw hOw hs)
                · skip
                  refine g_aload_n d_M_square_136 rfl rfl ?_
                  refine g_aload_n d_M_square_137 rfl rfl ?_
                  refine g_get d_M_square_138 fM_10 rfl ?_
                  refine g_iconst (v := nI 1) d_M_square_141 (by decide) ?_
                  refine g_isub d_M_square_142 ?_
                  refine g_calli (As := [_]) d_M_square_143 lM_16 mv_M_isWrong rfl rfl rfl (Nat.le_of_ble_eq_true rfl) (by decide) (m_isWrong) ?_
                  refine g_if_eq (tgt := 151) d_M_square_146 (by decide) (fun c_146 => ?_) (fun c_146 => ?_)
                  · exact absurd c_146 (by decide)
                  · skip
                    refine g_iconst (v := nI 0) d_M_square_149 (by decide) ?_
                    refine g_iret d_M_square_150 rfl rfl ?_
                    unfold sq6
                    rw [if_pos c_41, if_neg c_49, if_neg c_119, if_pos c_126, if_pos c_133]
                    exact ⟨rfl, rfl⟩
          · skip
            refine g_iconst (v := nI 1) d_M_square_107 (by decide) ?_
            refine g_goto (tgt := 112) d_M_square_108 (by decide) ?_
            first | refine g_top (b01_1 c_104) ?_ | refine g_top (b01_0 c_104) ?_
            refine g_putb d_M_square_112 fM_83 rfl b01_b rfl rfl ?_
            have hDw : okD (sqW σ) A B := (((hD.tk (tk_bit σ)).kp (kp.su (S := [30]) (by simp)) (by decide)).tk (tk_bit _)).kp (kp.su (S := [31]) (by simp)) (by decide)
            have hRw : okR (sqW σ) := (hR.bit.su (by decide) (by decide) (by decide)).bit.su (by decide) (by decide) (by decide)
            have hOw : okO (sqW σ) := hO.eq (fun j => ((tk_bit (su (fBit σ).2 30 0 (b01 (fBit σ).1))) 37 (by decide) (by decide) j).trans (tk_bit σ 37 (by decide) (by decide) j))
            refine g_st (τ := sqW σ) rfl ?_
            refine g_aload_n d_M_square_115 rfl rfl ?_
            refine g_get d_M_square_116 fM_7 rfl ?_
            refine g_if_ge (tgt := 151) d_M_square_119 (by decide) (fun c_119 => ?_) (fun c_119 => ?_)
            · skip
              unfold sq6
              first
                | (rw [if_pos c_41, if_pos c_49]; exact m_sq_7 ((hD.tk (tk_bit σ)).kp (kp.su (S := [30]) (by simp)) (by decide)) (hR.bit.su (by decide) (by decide) (by decide)) (hO.eq (fun j => tk_bit σ 37 (by decide) (by decide) j)) hs)
                | (rw [if_neg c_41]; exact m_sq_7 hD hR hO hs)
                | (rw [if_pos c_41, if_neg c_49, if_pos c_119]; exact m_sq_7 hDw hRw hOw hs)
                | (rw [if_pos c_41, if_neg c_49, if_neg c_119, if_neg c_126]; exact m_sq_7 hDw hRw hOw hs)
                | (rw [if_pos c_41, if_neg c_49, if_neg c_119, if_pos c_126, if_neg c_133]; exact m_sq_7 hDw hRw hOw hs)
            · skip
              refine g_aload_n d_M_square_122 rfl rfl ?_
              refine g_get d_M_square_123 fM_79 rfl ?_
              refine g_if_ne (tgt := 151) d_M_square_126 (by decide) (fun c_126 => ?_) (fun c_126 => ?_)
              · skip
                unfold sq6
                first
                  | (rw [if_pos c_41, if_pos c_49]; exact m_sq_7 ((hD.tk (tk_bit σ)).kp (kp.su (S := [30]) (by simp)) (by decide)) (hR.bit.su (by decide) (by decide) (by decide)) (hO.eq (fun j => tk_bit σ 37 (by decide) (by decide) j)) hs)
                  | (rw [if_neg c_41]; exact m_sq_7 hD hR hO hs)
                  | (rw [if_pos c_41, if_neg c_49, if_pos c_119]; exact m_sq_7 hDw hRw hOw hs)
                  | (rw [if_pos c_41, if_neg c_49, if_neg c_119, if_neg c_126]; exact m_sq_7 hDw hRw hOw hs)
                  | (rw [if_pos c_41, if_neg c_49, if_neg c_119, if_pos c_126, if_neg c_133]; exact m_sq_7 hDw hRw hOw hs)
              · skip
                refine g_aload_n d_M_square_129 rfl rfl ?_
                refine g_get d_M_square_130 fM_83 rfl ?_
                refine g_if_ne (tgt := 151) d_M_square_133 (by decide) (fun c_133 => ?_) (fun c_133 => ?_)
                · skip
                  unfold sq6
                  first
                    | (rw [if_pos c_41, if_pos c_49]; exact m_sq_7 ((hD.tk (tk_bit σ)).kp (kp.su (S := [30]) (by simp)) (by decide)) (hR.bit.su (by decide) (by decide) (by decide)) (hO.eq (fun j => tk_bit σ 37 (by decide) (by decide) j)) hs)
                    | (rw [if_neg c_41]; exact m_sq_7 hD hR hO hs)
                    | (rw [if_pos c_41, if_neg c_49, if_pos c_119]; exact m_sq_7 hDw hRw hOw hs)
                    | (rw [if_pos c_41, if_neg c_49, if_neg c_119, if_neg c_126]; exact m_sq_7 hDw hRw hOw hs)
                    | (rw [if_pos c_41, if_neg c_49, if_neg c_119, if_pos c_126, if_neg c_133]; exact m_sq_7 hDw hRw hOw hs)
                · skip
                  refine g_aload_n d_M_square_136 rfl rfl ?_
                  refine g_aload_n d_M_square_137 rfl rfl ?_
                  refine g_get d_M_square_138 fM_10 rfl ?_
                  refine g_iconst (v := nI 1) d_M_square_141 (by decide) ?_
                  refine g_isub d_M_square_142 ?_
                  refine g_calli (As := [_]) d_M_square_143 lM_16 mv_M_isWrong rfl rfl rfl (Nat.le_of_ble_eq_true rfl) (by decide) (m_isWrong) ?_
                  refine g_if_eq (tgt := 151) d_M_square_146 (by decide) (fun c_146 => ?_) (fun c_146 => ?_)
                  · exact absurd c_146 (by decide)
                  · skip
                    refine g_iconst (v := nI 0) d_M_square_149 (by decide) ?_
                    refine g_iret d_M_square_150 rfl rfl ?_
                    unfold sq6
                    rw [if_pos c_41, if_neg c_49, if_neg c_119, if_pos c_126, if_pos c_133]
                    exact ⟨rfl, rfl⟩
    · skip
      refine g_aload_n d_M_square_52 rfl rfl ?_
      refine g_calli (As := []) d_M_square_53 lM_24 mv_M_bit rfl rfl rfl (Nat.le_of_ble_eq_true rfl) (by decide) (m_bit hR.1) ?_
      refine g_iconst (v := nI 1) d_M_square_56 (by decide) ?_
      refine g_icmp_ne (tgt := 64) d_M_square_57 (by decide) (fun c_57 => ?_) (fun c_57 => ?_)
      · skip
        refine g_iconst (v := nI 0) d_M_square_64 (by decide) ?_
        first | refine g_top (b01_1 c_57) ?_ | refine g_top (b01_0 c_57) ?_
        refine g_istore_n d_M_square_65 rfl (Nat.le_of_ble_eq_true rfl) ?_
        refine g_aload_n d_M_square_66 rfl rfl ?_
        refine g_iconst (v := nI 1) d_M_square_67 (by decide) ?_
        refine g_put d_M_square_68 fM_79 rfl rfl rfl rfl ?_
        refine g_goto (tgt := 151) d_M_square_71 (by decide) ?_
        unfold sq6
        first
          | (rw [if_pos c_41, if_pos c_49]; exact m_sq_7 ((hD.tk (tk_bit σ)).kp (kp.su (S := [30]) (by simp)) (by decide)) (hR.bit.su (by decide) (by decide) (by decide)) (hO.eq (fun j => tk_bit σ 37 (by decide) (by decide) j)) hs)
          | (rw [if_neg c_41]; exact m_sq_7 hD hR hO hs)
          | (rw [if_pos c_41, if_neg c_49, if_pos c_119]; exact m_sq_7 hDw hRw hOw hs)
          | (rw [if_pos c_41, if_neg c_49, if_neg c_119, if_neg c_126]; exact m_sq_7 hDw hRw hOw hs)
          | (rw [if_pos c_41, if_neg c_49, if_neg c_119, if_pos c_126, if_neg c_133]; exact m_sq_7 hDw hRw hOw hs)
      · skip
        refine g_iconst (v := nI 1) d_M_square_60 (by decide) ?_
        refine g_goto (tgt := 65) d_M_square_61 (by decide) ?_
        first | refine g_top (b01_1 c_57) ?_ | refine g_top (b01_0 c_57) ?_
        refine g_istore_n d_M_square_65 rfl (Nat.le_of_ble_eq_true rfl) ?_
        refine g_aload_n d_M_square_66 rfl rfl ?_
        refine g_iconst (v := nI 1) d_M_square_67 (by decide) ?_
        refine g_put d_M_square_68 fM_79 rfl rfl rfl rfl ?_
        refine g_goto (tgt := 151) d_M_square_71 (by decide) ?_
        unfold sq6
        first
          | (rw [if_pos c_41, if_pos c_49]; exact m_sq_7 ((hD.tk (tk_bit σ)).kp (kp.su (S := [30]) (by simp)) (by decide)) (hR.bit.su (by decide) (by decide) (by decide)) (hO.eq (fun j => tk_bit σ 37 (by decide) (by decide) j)) hs)
          | (rw [if_neg c_41]; exact m_sq_7 hD hR hO hs)
          | (rw [if_pos c_41, if_neg c_49, if_pos c_119]; exact m_sq_7 hDw hRw hOw hs)
          | (rw [if_pos c_41, if_neg c_49, if_neg c_119, if_neg c_126]; exact m_sq_7 hDw hRw hOw hs)
          | (rw [if_pos c_41, if_neg c_49, if_neg c_119, if_pos c_126, if_neg c_133]; exact m_sq_7 hDw hRw hOw hs)
theorem m_square {s0 : State} {l : Launch} {m : Nat} {σ : Sg} {A B s : Nat} (hD : okD σ A B) (hR : okR σ) (hO : okO σ) (hs : s < A * B) : GC s0 l M_M_square m [.int (nI s)] σ (fun r σ' => r = some (.int (fSq A B s σ).1) ∧ σ' = (fSq A B s σ).2) := by
  refine g_in (by decide) rfl rfl (Nat.le_of_ble_eq_true rfl) (fun hB => ?_)
  refine g_aload_n d_M_square_0 rfl rfl ?_
  refine g_aload_n d_M_square_1 rfl rfl ?_
  refine g_get d_M_square_2 fM_70 rfl ?_
  refine g_iconst (v := nI 1) d_M_square_5 (by decide) ?_
  refine g_icmp_eq (tgt := 17) d_M_square_6 (by decide) (fun c_6 => ?_) (fun c_6 => ?_)
  · skip
    refine g_iconst (v := nI 1) d_M_square_17 (by decide) ?_
    refine g_goto (tgt := 22) d_M_square_18 (by decide) ?_
    refine g_put d_M_square_22 fM_132 rfl rfl rfl rfl ?_
    refine g_aload_n d_M_square_25 rfl rfl ?_
    refine g_iconst (v := nI 0) d_M_square_26 (by decide) ?_
    refine g_put d_M_square_27 fM_79 rfl rfl rfl rfl ?_
    refine g_aload_n d_M_square_30 rfl rfl ?_
    refine g_iconst (v := nI 0) d_M_square_31 (by decide) ?_
    refine g_put d_M_square_32 fM_83 rfl rfl rfl rfl ?_
    refine g_iconst (v := nI 0) d_M_square_35 (by decide) ?_
    refine g_istore_n d_M_square_36 rfl (Nat.le_of_ble_eq_true rfl) ?_
    unfold fSq
    first
      | (rw [if_pos c_6]; exact m_sq_6 (hD.kp (((kp.su (S := [32, 30, 31]) (by simp)).trans (kp.su (by simp))).trans (kp.su (by simp))) (by decide)) (((hR.su (by decide) (by decide) (by decide)).su (by decide) (by decide) (by decide)).su (by decide) (by decide) (by decide)) (hO.eq (fun j => rfl)) hs)
      | (have eb : b01 (fBit σ).1 = nI 1 := by first | exact (b01_1 c_14).symm | exact (b01_0 c_14).symm
         rw [if_neg c_6, eb]; exact m_sq_6 ((hD.tk (tk_bit σ)).kp (((kp.su (S := [32, 30, 31]) (by simp)).trans (kp.su (by simp))).trans (kp.su (by simp))) (by decide)) (((hR.bit.su (by decide) (by decide) (by decide)).su (by decide) (by decide) (by decide)).su (by decide) (by decide) (by decide)) (hO.eq (fun j => tk_bit σ 37 (by decide) (by decide) j)) hs)
  · skip
    refine g_aload_n d_M_square_9 rfl rfl ?_
    refine g_calli (As := []) d_M_square_10 lM_24 mv_M_bit rfl rfl rfl (Nat.le_of_ble_eq_true rfl) (by decide) (m_bit hR.1) ?_
    refine g_iconst (v := nI 1) d_M_square_13 (by decide) ?_
    refine g_icmp_ne (tgt := 21) d_M_square_14 (by decide) (fun c_14 => ?_) (fun c_14 => ?_)
    · skip
      refine g_iconst (v := nI 0) d_M_square_21 (by decide) ?_
      refine g_put d_M_square_22 fM_132 rfl rfl rfl rfl ?_
      refine g_aload_n d_M_square_25 rfl rfl ?_
      refine g_iconst (v := nI 0) d_M_square_26 (by decide) ?_
      refine g_put d_M_square_27 fM_79 rfl rfl rfl rfl ?_
      refine g_aload_n d_M_square_30 rfl rfl ?_
      refine g_iconst (v := nI 0) d_M_square_31 (by decide) ?_
      refine g_put d_M_square_32 fM_83 rfl rfl rfl rfl ?_
      refine g_iconst (v := nI 0) d_M_square_35 (by decide) ?_
      refine g_istore_n d_M_square_36 rfl (Nat.le_of_ble_eq_true rfl) ?_
      unfold fSq
      first
        | (rw [if_pos c_6]; exact m_sq_6 (hD.kp (((kp.su (S := [32, 30, 31]) (by simp)).trans (kp.su (by simp))).trans (kp.su (by simp))) (by decide)) (((hR.su (by decide) (by decide) (by decide)).su (by decide) (by decide) (by decide)).su (by decide) (by decide) (by decide)) (hO.eq (fun j => rfl)) hs)
        | (have eb : b01 (fBit σ).1 = nI 0 := by first | exact (b01_1 c_14).symm | exact (b01_0 c_14).symm
           rw [if_neg c_6, eb]; exact m_sq_6 ((hD.tk (tk_bit σ)).kp (((kp.su (S := [32, 30, 31]) (by simp)).trans (kp.su (by simp))).trans (kp.su (by simp))) (by decide)) (((hR.bit.su (by decide) (by decide) (by decide)).su (by decide) (by decide) (by decide)).su (by decide) (by decide) (by decide)) (hO.eq (fun j => tk_bit σ 37 (by decide) (by decide) j)) hs)
    · skip
      refine g_iconst (v := nI 1) d_M_square_17 (by decide) ?_
      refine g_goto (tgt := 22) d_M_square_18 (by decide) ?_
      refine g_put d_M_square_22 fM_132 rfl rfl rfl rfl ?_
      refine g_aload_n d_M_square_25 rfl rfl ?_
      refine g_iconst (v := nI 0) d_M_square_26 (by decide) ?_
      refine g_put d_M_square_27 fM_79 rfl rfl rfl rfl ?_
      refine g_aload_n d_M_square_30 rfl rfl ?_
      refine g_iconst (v := nI 0) d_M_square_31 (by decide) ?_
      refine g_put d_M_square_32 fM_83 rfl rfl rfl rfl ?_
      refine g_iconst (v := nI 0) d_M_square_35 (by decide) ?_
      refine g_istore_n d_M_square_36 rfl (Nat.le_of_ble_eq_true rfl) ?_
      unfold fSq
      first
        | (rw [if_pos c_6]; exact m_sq_6 (hD.kp (((kp.su (S := [32, 30, 31]) (by simp)).trans (kp.su (by simp))).trans (kp.su (by simp))) (by decide)) (((hR.su (by decide) (by decide) (by decide)).su (by decide) (by decide) (by decide)).su (by decide) (by decide) (by decide)) (hO.eq (fun j => rfl)) hs)
        | (have eb : b01 (fBit σ).1 = nI 1 := by first | exact (b01_1 c_14).symm | exact (b01_0 c_14).symm
           rw [if_neg c_6, eb]; exact m_sq_6 ((hD.tk (tk_bit σ)).kp (((kp.su (S := [32, 30, 31]) (by simp)).trans (kp.su (by simp))).trans (kp.su (by simp))) (by decide)) (((hR.bit.su (by decide) (by decide) (by decide)).su (by decide) (by decide) (by decide)).su (by decide) (by decide) (by decide)) (hO.eq (fun j => tk_bit σ 37 (by decide) (by decide) j)) hs)

