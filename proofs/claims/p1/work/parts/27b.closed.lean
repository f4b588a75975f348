/-! ===== the next ones ===== -/
def mi_chk1 : Bool := mi_rk mi_e1a (.int (-1)) && (mi_rk mi_e2a (.int 1) && (mi_rk mi_e3a (.double 0) && (mi_rk mi_e4a (.long 11709322759) && (mi_fck mi_hA (0, 10, 0, .ref 1) && (mi_fck mi_hA (0, 10, 4, .ref 17) && (mi_fck mi_hA (0, 10, 5, .ref 26) && (mi_fck mi_hA (0, 10, 9, .ref 52) && (mi_fck mi_hA (0, 10, 10, .int 0) && (mi_fck mi_hA (17, 3, 12, .int 3) && (mi_fck mi_hA (17, 3, 13, .int 2) && (mi_fck mi_hA (17, 3, 14, .int 0) && (mi_fck mi_hA (26, 6, 7, .int 0) && (mi_fck mi_hA (52, 9, 5, .int 0) && (mi_ack mi_hA (1, 2, 1200) && (decide (mi_hA.length = 99))))))))))))))))
set_option maxRecDepth 1000000 in
theorem mi_chk1_ok : mi_chk1 = true := by decide +kernel
theorem mi_chk1_l : mi_rk mi_e1a (.int (-1)) = true ∧ mi_rk mi_e2a (.int 1) = true ∧ mi_rk mi_e3a (.double 0) = true ∧ mi_rk mi_e4a (.long 11709322759) = true ∧ mi_fck mi_hA (0, 10, 0, .ref 1) = true ∧ mi_fck mi_hA (0, 10, 4, .ref 17) = true ∧ mi_fck mi_hA (0, 10, 5, .ref 26) = true ∧ mi_fck mi_hA (0, 10, 9, .ref 52) = true ∧ mi_fck mi_hA (0, 10, 10, .int 0) = true ∧ mi_fck mi_hA (17, 3, 12, .int 3) = true ∧ mi_fck mi_hA (17, 3, 13, .int 2) = true ∧ mi_fck mi_hA (17, 3, 14, .int 0) = true ∧ mi_fck mi_hA (26, 6, 7, .int 0) = true ∧ mi_fck mi_hA (52, 9, 5, .int 0) = true ∧ mi_ack mi_hA (1, 2, 1200) = true ∧ decide (mi_hA.length = 99) = true := by
  have h := mi_chk1_ok
  unfold mi_chk1 at h
  simp only [Bool.and_eq_true] at h
  exact h
