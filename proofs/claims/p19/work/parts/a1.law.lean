/-! ===== the law's own row ===== -/
set_option maxRecDepth 100000 in
theorem mi_dL0 : ∀ q ∈ mi_qL0, decode code q.1 = .ok q.2 := by decide +kernel
set_option maxRecDepth 100000 in
theorem mi_dL1 : ∀ q ∈ mi_qL1, decode code q.1 = .ok q.2 := by decide +kernel
set_option maxRecDepth 100000 in
theorem mi_dL2 : ∀ q ∈ mi_qL2, decode code q.1 = .ok q.2 := by decide +kernel
set_option maxRecDepth 100000 in
theorem mi_dL3 : ∀ q ∈ mi_qL3, decode code q.1 = .ok q.2 := by decide +kernel
set_option maxRecDepth 100000 in
theorem mi_dL4 : ∀ q ∈ mi_qL4, decode code q.1 = .ok q.2 := by decide +kernel
set_option maxRecDepth 100000 in
theorem mi_dL5 : ∀ q ∈ mi_qL5, decode code q.1 = .ok q.2 := by decide +kernel
set_option maxRecDepth 100000 in
theorem mi_dL6 : ∀ q ∈ mi_qL6, decode code q.1 = .ok q.2 := by decide +kernel
set_option maxRecDepth 100000 in
theorem mi_dL7 : ∀ q ∈ mi_qL7, decode code q.1 = .ok q.2 := by decide +kernel
set_option maxRecDepth 100000 in
theorem mi_dL8 : ∀ q ∈ mi_qL8, decode code q.1 = .ok q.2 := by decide +kernel
set_option maxRecDepth 100000 in
theorem mi_dL9 : ∀ q ∈ mi_qL9, decode code q.1 = .ok q.2 := by decide +kernel
set_option maxRecDepth 100000 in
theorem mi_dL10 : ∀ q ∈ mi_qL10, decode code q.1 = .ok q.2 := by decide +kernel
theorem mi_dL : ∀ q ∈ mi_qL, decode code q.1 = .ok q.2 := by
  intro q h
  rcases List.mem_append.mp h with h | h
  · exact mi_dL0 q h
  rcases List.mem_append.mp h with h | h
  · exact mi_dL1 q h
  rcases List.mem_append.mp h with h | h
  · exact mi_dL2 q h
  rcases List.mem_append.mp h with h | h
  · exact mi_dL3 q h
  rcases List.mem_append.mp h with h | h
  · exact mi_dL4 q h
  rcases List.mem_append.mp h with h | h
  · exact mi_dL5 q h
  rcases List.mem_append.mp h with h | h
  · exact mi_dL6 q h
  rcases List.mem_append.mp h with h | h
  · exact mi_dL7 q h
  rcases List.mem_append.mp h with h | h
  · exact mi_dL8 q h
  rcases List.mem_append.mp h with h | h
  · exact mi_dL9 q h
  exact mi_dL10 q h
theorem mi_cdL : mi_cd mi_ML = mi_qL := rfl
theorem mi_btL : mi_bt mi_ML = code := rfl
theorem mi_allL : (mi_cd mi_ML).all (fun q => decide (decode (mi_bt mi_ML) q.1 = .ok q.2)) = true := by
  rw [mi_cdL, mi_btL]
  exact List.all_eq_true.mpr (fun q hq => decide_eq_true (mi_dL q hq))
set_option maxRecDepth 100000 in
theorem mi_okL : mi_mok mi_ML = true := by
  unfold mi_mok
  simp only [Bool.and_eq_true]
  and_intros
  · decide +kernel
  · decide +kernel
  · decide +kernel
  · decide +kernel
  · decide +kernel
  · decide +kernel
  · decide +kernel
  · decide +kernel
  · exact mi_allL
  · decide +kernel
  · decide +kernel

