/-! ===== the reference ===== -/
def mi_chk2 : Bool := mi_rk mi_e0b (.int 1) && (mi_rk mi_e1b (.int (-1)) && (mi_rk mi_e2b (.int 1) && (mi_rk mi_e3b (.double 0) && (mi_rk mi_e4b (.long 11709322759) && (mi_fck mi_hB (55, 11, 0, .int 0) && (mi_fck mi_hB (55, 11, 1, .ref 56) && (mi_fck mi_hB (55, 11, 2, .int 0) && (mi_fck mi_hB (55, 11, 9, .int 0) && (mi_fck mi_hB (55, 11, 27, .int 1) && (mi_fck mi_hB (55, 11, 30, .int 2) && (mi_fck mi_hB (55, 11, 34, .int 0) && (mi_fck mi_hB (55, 11, 52, .int 0) && (mi_ack mi_hB (56, 0, 1200) && (mi_lck mi_hB 98 1 && (decide (mi_hB.length = 99) && (decide (mi_k0 mi_r1d = some (98, 42, 1279348))))))))))))))))))
set_option maxRecDepth 1000000 in
theorem mi_chk2_ok : mi_chk2 = true := by decide +kernel
theorem mi_chk2_l : mi_rk mi_e0b (.int 1) = true ∧ mi_rk mi_e1b (.int (-1)) = true ∧ mi_rk mi_e2b (.int 1) = true ∧ mi_rk mi_e3b (.double 0) = true ∧ mi_rk mi_e4b (.long 11709322759) = true ∧ mi_fck mi_hB (55, 11, 0, .int 0) = true ∧ mi_fck mi_hB (55, 11, 1, .ref 56) = true ∧ mi_fck mi_hB (55, 11, 2, .int 0) = true ∧ mi_fck mi_hB (55, 11, 9, .int 0) = true ∧ mi_fck mi_hB (55, 11, 27, .int 1) = true ∧ mi_fck mi_hB (55, 11, 30, .int 2) = true ∧ mi_fck mi_hB (55, 11, 34, .int 0) = true ∧ mi_fck mi_hB (55, 11, 52, .int 0) = true ∧ mi_ack mi_hB (56, 0, 1200) = true ∧ mi_lck mi_hB 98 1 = true ∧ decide (mi_hB.length = 99) = true ∧ decide (mi_k0 mi_r1d = some (98, 42, 1279348)) = true := by
  have h := mi_chk2_ok
  unfold mi_chk2 at h
  simp only [Bool.and_eq_true] at h
  exact h
