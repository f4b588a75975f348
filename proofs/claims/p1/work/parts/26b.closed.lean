/-! ===== the next ones ===== -/
def mi_chk1 : Bool := mi_rk mi_e2a (.int 1) && (mi_rk mi_e2b (.int 1) && (mi_fck (mi_hp mi_e2a) (55, 11, 0, .int 0) && (mi_rk mi_e3a (.double 0) && (mi_rk mi_e3b (.double 0) && (mi_fck (mi_hp mi_e3a) (55, 11, 0, .int 0) && (mi_rk mi_e4a (.long 11709322759) && (mi_rk mi_e4b (.long 11709322759) && (mi_fck (mi_hp mi_e4a) (55, 11, 0, .int 0)))))))))
set_option maxRecDepth 1000000 in
theorem mi_chk1_ok : mi_chk1 = true := by decide +kernel
theorem mi_chk1_l : mi_rk mi_e2a (.int 1) = true ∧ mi_rk mi_e2b (.int 1) = true ∧ mi_fck (mi_hp mi_e2a) (55, 11, 0, .int 0) = true ∧ mi_rk mi_e3a (.double 0) = true ∧ mi_rk mi_e3b (.double 0) = true ∧ mi_fck (mi_hp mi_e3a) (55, 11, 0, .int 0) = true ∧ mi_rk mi_e4a (.long 11709322759) = true ∧ mi_rk mi_e4b (.long 11709322759) = true ∧ mi_fck (mi_hp mi_e4a) (55, 11, 0, .int 0) = true := by
  have h := mi_chk1_ok
  unfold mi_chk1 at h
  simp only [Bool.and_eq_true] at h
  exact h
