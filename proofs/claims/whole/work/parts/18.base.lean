theorem c_in {s0 : State} {l : Launch} {M : MI} {av : List Value} {h : Mem} {Q : Out → Mem → Prop} (hy : plainName (iY M).cls = true) (hH : iH M = []) (hc : av.all (fun v => v.category == 1) = true) (hn : av.length ≤ iL M) (k : RQ s0 l M h 0 (ent av (iL M)) [] h Q) : CQ s0 l M av h Q :=
  c_intro hy hH (fun v hv => by simpa using List.all_eq_true.mp hc v hv) hn k
theorem c_inH {s0 : State} {l : Launch} {M : MI} {av : List Value} {h : Mem} {Q : Out → Mem → Prop} (hy : plainName (iY M).cls = true) (hH : iH M ≠ []) (hc : av.all (fun v => v.category == 1) = true) (hn : av.length ≤ iL M) (k : RQ s0 l M h 0 (ent av (iL M)) [] h Q) : CQ s0 l M av h Q :=
  c_introH hy hH (fun v hv => by simpa using List.all_eq_true.mp hc v hv) hn k
theorem mem_ext {h h' : Mem} (hK : ∀ a, mK h a = mK h' a) (hL : ∀ a, mL h a = mL h' a) (hI : ∀ a j, mI h a j = mI h' a j) (hR : ∀ a j, mR h a j = mR h' a j) (hJ : ∀ a j, mJ h a j = mJ h' a j) (hN : mN h = mN h') (hU : mU h = mU h') : h = h' := by
  obtain ⟨a1, a2, a3, a4, a5, a6, a7⟩ := h
  obtain ⟨b1, b2, b3, b4, b5, b6, b7⟩ := h'
  have e1 : a1 = b1 := funext hK
  have e2 : a2 = b2 := funext hL
  have e3 : a3 = b3 := funext fun a => funext (hI a)
  have e4 : a4 = b4 := funext fun a => funext (hR a)
  have e5 : a5 = b5 := funext fun a => funext (hJ a)
  have e6 : a6 = b6 := hN
  have e7 : a7 = b7 := hU
  subst e1; subst e2; subst e3; subst e4; subst e5; subst e6; subst e7
  rfl
theorem sI_sI (h : Mem) (a k : Nat) (x y : Int32) : sI (sI h a k x) a k y = sI h a k y := by
  refine mem_ext (fun _ => rfl) (fun _ => rfl) (fun b j => ?_) (fun _ _ => rfl) (fun _ _ => rfl) rfl rfl
  simp only [mI_sI]
  split <;> rfl
theorem sI_self (h : Mem) (a k : Nat) : sI h a k (mI h a k) = h := by
  refine mem_ext (fun _ => rfl) (fun _ => rfl) (fun b j => ?_) (fun _ _ => rfl) (fun _ _ => rfl) rfl rfl
  simp only [mI_sI]
  split
  · rename_i e; rw [e.1, e.2]
  · rfl
theorem sI_eq {h : Mem} {a k : Nat} {x : Int32} (e : mI h a k = x) : sI h a k x = h := by rw [← e]; exact sI_self h a k
theorem sI_comm (h : Mem) (a k b j : Nat) (x y : Int32) (hne : ¬ (a = b ∧ k = j)) : sI (sI h a k x) b j y = sI (sI h b j y) a k x := by
  refine mem_ext (fun _ => rfl) (fun _ => rfl) (fun c i => ?_) (fun _ _ => rfl) (fun _ _ => rfl) rfl rfl
  simp only [mI_sI]
  by_cases h1 : c = a ∧ i = k <;> by_cases h2 : c = b ∧ i = j
  · exact absurd ⟨h1.1.symm.trans h2.1, h1.2.symm.trans h2.2⟩ hne
  · rw [if_neg h2, if_pos h1, if_pos h1]
  · rw [if_pos h2, if_neg h1, if_pos h2]
  · rw [if_neg h2, if_neg h1, if_neg h1, if_neg h2]
abbrev ISE : String := "java/lang/IllegalStateException"
abbrev NSE : String := "java/util/NoSuchElementException"
