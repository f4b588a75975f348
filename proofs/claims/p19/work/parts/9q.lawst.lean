/-! ===== what the constructor leaves, as numbers ===== -/
section IN
variable {h : mi_H}
theorem fvx_of {k ci j : Nat} {v : Value} (q : mi_fv h k ci j = some v) : fvx h k j = some v := by
  obtain ⟨o, h1, h2⟩ := mi_fv_inv q
  unfold fvx
  rw [h1]
  exact h2
theorem in_St (H : in_tab h = true) : mi_St h (sg1 h) := by
  unfold in_tab at H
  simp only [Bool.and_eq_true, List.all_eq_true] at H
  obtain ⟨a1, a2, a3, a4, a5, a6⟩ := H
  refine ⟨fun q hq => ?_, fun q hq => ?_, fun q hq => ?_, fun q hq => ?_, fun q hq => ?_, fun q hq => ?_⟩
  · have := a1 q hq
    unfold isI at this
    split at this
    next v e =>
      rw [e]
      show _ = some (Value.int (Int32.ofInt (vI (fvx h q.1 q.2.2))))
      rw [fvx_of e]
      show _ = some (Value.int (Int32.ofInt v.toInt))
      rw [Int32.ofInt_toInt]
    next => cases this
  · have := a2 q hq
    unfold isR at this
    split at this
    next v e =>
      rw [e]
      show _ = some (Value.ref (vI (fvx h q.1 q.2.2)).toNat)
      rw [fvx_of e]
      rfl
    next => cases this
  · have := a3 q hq
    unfold isJ at this
    split at this
    next v e =>
      rw [e]
      show _ = some (Value.long (vJ (fvx h q.1 q.2.2)))
      rw [fvx_of e]
      rfl
    next => cases this
  · have := a4 q hq
    unfold isR2 at this
    split at this
    next v e =>
      rw [e]
      have e2 := eq_of_beq this
      rw [e2]
    next => cases this
  · have := a5 q hq
    unfold isA at this
    split at this
    next f e =>
      obtain ⟨t, n, f⟩ := f
      simp only [Bool.and_eq_true, beq_iff_eq] at this
      obtain ⟨e1, e2⟩ := this
      rw [e, ← e1, ← e2]
      refine congrArg (fun g : Nat → Int32 => some (t, n, g)) (funext fun i => ?_)
      show f i = Int32.ofInt (aiv h q.1 ((i : Int)).toNat)
      unfold aiv
      rw [e]
      show f i = Int32.ofInt (f ((i : Int)).toNat).toInt
      rw [Int32.ofInt_toInt, Int.toNat_natCast]
    next => cases this
  · have := a6 q hq
    unfold isL at this
    split at this
    next f e =>
      obtain ⟨n, f⟩ := f
      have e1 : n = q.2 := eq_of_beq this
      rw [e, ← e1]
      refine congrArg (fun g : Nat → Int64 => some (n, g)) (funext fun i => ?_)
      show f i = alv h q.1 ((i : Int)).toNat
      unfold alv
      rw [e]
      show f i = f ((i : Int)).toNat
      rw [Int.toNat_natCast]
    next => cases this
theorem in_fin (H1 : in_tab h = true) (H2 : in_val h = true) : ty_H h (sg1 h) ∧ BB (sg1 h) ∧ BC (sg1 h) ∧ mi_sF (sg1 h) 0 10 = 0 ∧ mi_sF (sg1 h) 9 11 = 0 := by
  have St := in_St H1
  unfold in_val at H2
  simp only [Bool.and_eq_true, List.all_eq_true, decide_eq_true_eq, List.mem_range] at H2
  obtain ⟨v0, v12, v10, v11, v11z, v13, v18, v19, v4⟩ := H2
  have f1 : mi_sF (sg1 h) 9 7 = 512 := v0 (9, 7, 512) (by simp)
  have f2 : mi_sF (sg1 h) 9 8 = 13 := v0 (9, 8, 13) (by simp)
  have f3 : mi_sF (sg1 h) 9 9 = 13 := v0 (9, 9, 13) (by simp)
  have f4 : mi_sF (sg1 h) 9 11 = 0 := v0 (9, 11, 0) (by simp)
  have f5 : mi_sF (sg1 h) 17 11 = 13 := v0 (17, 11, 13) (by simp)
  have f6 : mi_sF (sg1 h) 0 10 = 0 := v0 (0, 10, 0) (by simp)
  have a12 : ∀ n : Int, 0 ≤ n → n < 13 → mi_sA (sg1 h) 12 n = n := fun n n0 n1 => by
    have := v12 n.toNat (by omega)
    show aiv h 12 n.toNat = n
    rw [this]
    omega
  have a13 : ∀ n : Int, 0 ≤ n → n < 13 → mi_sA (sg1 h) 13 n = 0 := fun n n0 n1 => v13 n.toNat (by omega)
  have a11 : ∀ n : Int, 0 ≤ n → n < 39 → 0 ≤ mi_sA (sg1 h) 11 n ∧ mi_sA (sg1 h) 11 n < 13 := fun n n0 n1 => v11 n.toNat (by omega)
  have eL : mi_wL (sg1 h) (mi_sA (sg1 h) 12) = sg1 h := by
    unfold mi_wL
    refine congrArg (fun A => ((sg1 h).1, A, (sg1 h).2.2)) (funext fun k => funext fun i => ?_)
    by_cases e : k = 12
    · rw [if_pos e, e]
      rfl
    · rw [if_neg e]
      rfl
  refine ⟨⟨⟨f1, f5⟩, mi_sA (sg1 h) 12, fun _ => 0, by rw [eL]; exact St, ?_⟩, ⟨⟨v18 0 (by decide), v18 1 (by decide), v18 2 (by decide), v19 0 (by decide), v19 1 (by decide), v19 2 (by decide)⟩, fun j hj => ?_, fun i i0 i1 => a11 i (by omega) i1, fun i i0 i1 => v11z i.toNat (by omega)⟩, ⟨⟨v10 0 (by decide), v10 1 (by decide), v10 2 (by decide)⟩, ⟨a12 1 (by decide) (by decide), a12 2 (by decide) (by decide)⟩, a13 0 (by decide) (by decide), by omega, fun n n0 n1 => by rw [a13 n n0 n1]; omega⟩, f6, f4⟩
  · rw [eL]
    refine ⟨by omega, by omega, a12 0 (by decide) (by decide), fun n n0 n1 => ?_, by omega, ⟨by omega, fun n n0 => ⟨fun n1 => ?_, fun n1 => ?_⟩⟩⟩
    · have e := a12 n (by omega) (by omega)
      refine ⟨?_, ?_, ?_, fun _ => e, fun _ => e, fun q => (q e).elim, ?_, Int.le_refl _, ?_⟩
      · rw [e]; omega
      · rw [e, e]
      · rw [e]; omega
      · exact ⟨Int.le_refl _, by show (0 : Int) < _; omega⟩
      · rw [e, e]
    · rw [a12 n (by omega) (by omega)]
      omega
    · rw [a12 n (by omega) (by omega)]
      omega
  · have := v4 j hj
    show alv h 4 ((j : Int)).toNat = _
    rw [Int.toNat_natCast]
    exact this
end IN
theorem law_init : ∃ h c s, mi_r1 = some (.inl none, h, c, s) ∧ h.length = 55 ∧ c ≤ 60 ∧ s ≤ 25000 ∧ ty_H h (sg1 h) ∧ BB (sg1 h) ∧ BC (sg1 h) ∧ mi_sF (sg1 h) 0 10 = 0 ∧ mi_sF (sg1 h) 9 11 = 0 := by
  have H := in_ok1
  unfold in_ok at H
  split at H
  next h c s e =>
    simp only [Bool.and_eq_true, decide_eq_true_eq] at H
    obtain ⟨l, hc, hs, t, v⟩ := H
    exact ⟨h, c, s, e, l, hc, hs, in_fin t v⟩
  next => cases H
