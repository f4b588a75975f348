/-! ===== what lies there ===== -/
def mi_chk2 : Bool := mi_fck mi_h2 (0, 10, 0, .ref 1) && (mi_fck mi_h2 (0, 10, 4, .ref 17) && (mi_fck mi_h2 (0, 10, 5, .ref 26) && (mi_fck mi_h2 (0, 10, 9, .ref 52) && (mi_fck mi_h2 (0, 10, 10, .int 0) && (mi_fck mi_h2 (17, 3, 12, .int 3) && (mi_fck mi_h2 (17, 3, 13, .int 2) && (mi_fck mi_h2 (17, 3, 14, .int 0) && (mi_fck mi_h2 (26, 6, 7, .int 0) && (mi_fck mi_h2 (52, 9, 5, .int 0) && (mi_fck mi_h2 (55, 11, 0, .int 0) && (mi_fck mi_h2 (55, 11, 1, .ref 56) && (mi_fck mi_h2 (55, 11, 2, .int 0) && (mi_fck mi_h2 (55, 11, 9, .int 0) && (mi_fck mi_h2 (55, 11, 27, .int 1) && (mi_fck mi_h2 (55, 11, 30, .int 2) && (mi_fck mi_h2 (55, 11, 34, .int 0) && (mi_fck mi_h2 (55, 11, 52, .int 0) && (mi_ack mi_h2 (1, 2, 1200) && (mi_ack mi_h2 (56, 0, 1200) && (mi_lck mi_h2 98 1 && (decide (mi_h2.length = 99))))))))))))))))))))))
set_option maxRecDepth 1000000 in
theorem mi_chk2_ok : mi_chk2 = true := by decide +kernel
theorem mi_chk2_l : mi_fck mi_h2 (0, 10, 0, .ref 1) = true ∧ mi_fck mi_h2 (0, 10, 4, .ref 17) = true ∧ mi_fck mi_h2 (0, 10, 5, .ref 26) = true ∧ mi_fck mi_h2 (0, 10, 9, .ref 52) = true ∧ mi_fck mi_h2 (0, 10, 10, .int 0) = true ∧ mi_fck mi_h2 (17, 3, 12, .int 3) = true ∧ mi_fck mi_h2 (17, 3, 13, .int 2) = true ∧ mi_fck mi_h2 (17, 3, 14, .int 0) = true ∧ mi_fck mi_h2 (26, 6, 7, .int 0) = true ∧ mi_fck mi_h2 (52, 9, 5, .int 0) = true ∧ mi_fck mi_h2 (55, 11, 0, .int 0) = true ∧ mi_fck mi_h2 (55, 11, 1, .ref 56) = true ∧ mi_fck mi_h2 (55, 11, 2, .int 0) = true ∧ mi_fck mi_h2 (55, 11, 9, .int 0) = true ∧ mi_fck mi_h2 (55, 11, 27, .int 1) = true ∧ mi_fck mi_h2 (55, 11, 30, .int 2) = true ∧ mi_fck mi_h2 (55, 11, 34, .int 0) = true ∧ mi_fck mi_h2 (55, 11, 52, .int 0) = true ∧ mi_ack mi_h2 (1, 2, 1200) = true ∧ mi_ack mi_h2 (56, 0, 1200) = true ∧ mi_lck mi_h2 98 1 = true ∧ decide (mi_h2.length = 99) = true := by
  have h := mi_chk2_ok
  unfold mi_chk2 at h
  simp only [Bool.and_eq_true] at h
  exact h
theorem mi_f_0_0 : mi_fv mi_h2 0 10 0 = some (.ref 1) := mi_fck_of mi_chk2_l.1
theorem mi_f_0_4 : mi_fv mi_h2 0 10 4 = some (.ref 17) := mi_fck_of mi_chk2_l.2.1
theorem mi_f_0_5 : mi_fv mi_h2 0 10 5 = some (.ref 26) := mi_fck_of mi_chk2_l.2.2.1
theorem mi_f_0_9 : mi_fv mi_h2 0 10 9 = some (.ref 52) := mi_fck_of mi_chk2_l.2.2.2.1
theorem mi_f_0_10 : mi_fv mi_h2 0 10 10 = some (.int 0) := mi_fck_of mi_chk2_l.2.2.2.2.1
theorem mi_f_17_12 : mi_fv mi_h2 17 3 12 = some (.int 3) := mi_fck_of mi_chk2_l.2.2.2.2.2.1
theorem mi_f_17_13 : mi_fv mi_h2 17 3 13 = some (.int 2) := mi_fck_of mi_chk2_l.2.2.2.2.2.2.1
theorem mi_f_17_14 : mi_fv mi_h2 17 3 14 = some (.int 0) := mi_fck_of mi_chk2_l.2.2.2.2.2.2.2.1
theorem mi_f_26_7 : mi_fv mi_h2 26 6 7 = some (.int 0) := mi_fck_of mi_chk2_l.2.2.2.2.2.2.2.2.1
theorem mi_f_52_5 : mi_fv mi_h2 52 9 5 = some (.int 0) := mi_fck_of mi_chk2_l.2.2.2.2.2.2.2.2.2.1
theorem mi_f_55_0 : mi_fv mi_h2 55 11 0 = some (.int 0) := mi_fck_of mi_chk2_l.2.2.2.2.2.2.2.2.2.2.1
theorem mi_f_55_1 : mi_fv mi_h2 55 11 1 = some (.ref 56) := mi_fck_of mi_chk2_l.2.2.2.2.2.2.2.2.2.2.2.1
theorem mi_f_55_2 : mi_fv mi_h2 55 11 2 = some (.int 0) := mi_fck_of mi_chk2_l.2.2.2.2.2.2.2.2.2.2.2.2.1
theorem mi_f_55_9 : mi_fv mi_h2 55 11 9 = some (.int 0) := mi_fck_of mi_chk2_l.2.2.2.2.2.2.2.2.2.2.2.2.2.1
theorem mi_f_55_27 : mi_fv mi_h2 55 11 27 = some (.int 1) := mi_fck_of mi_chk2_l.2.2.2.2.2.2.2.2.2.2.2.2.2.2.1
theorem mi_f_55_30 : mi_fv mi_h2 55 11 30 = some (.int 2) := mi_fck_of mi_chk2_l.2.2.2.2.2.2.2.2.2.2.2.2.2.2.2.1
theorem mi_f_55_34 : mi_fv mi_h2 55 11 34 = some (.int 0) := mi_fck_of mi_chk2_l.2.2.2.2.2.2.2.2.2.2.2.2.2.2.2.2.1
theorem mi_f_55_52 : mi_fv mi_h2 55 11 52 = some (.int 0) := mi_fck_of mi_chk2_l.2.2.2.2.2.2.2.2.2.2.2.2.2.2.2.2.2.1
theorem mi_f_a1 : ∃ g, mi_ai mi_h2 1 = some (2, 1200, g) := mi_ack_of mi_chk2_l.2.2.2.2.2.2.2.2.2.2.2.2.2.2.2.2.2.2.1
theorem mi_f_a56 : ∃ g, mi_ai mi_h2 56 = some (0, 1200, g) := mi_ack_of mi_chk2_l.2.2.2.2.2.2.2.2.2.2.2.2.2.2.2.2.2.2.2.1
theorem mi_f_a98 : ∃ f, mi_al mi_h2 98 = some (1, f) := mi_lck_of mi_chk2_l.2.2.2.2.2.2.2.2.2.2.2.2.2.2.2.2.2.2.2.2.1
theorem mi_f_len : mi_h2.length = 99 := of_decide_eq_true mi_chk2_l.2.2.2.2.2.2.2.2.2.2.2.2.2.2.2.2.2.2.2.2.2
theorem mi_e0_fv : mi_fv (mi_hp mi_e0a) 55 11 0 = some (.int 0) := mi_fck_of mi_chk0_l.2.2.1
theorem mi_e0a_w (X : mi_X) : ∃ c s : Nat, mi_wp X 20 mi_M5 0 [(0, .ref 0)] [] mi_h2 0 0 (fun z => z = (.inl (some (.int 1)), mi_hp mi_e0a, c, s)) ∧ c ≤ 1000 ∧ s ≤ 10000 := by
  obtain ⟨c, s, h, h1, h2⟩ := mi_rk_of mi_chk0_l.1
  exact ⟨c, s, mi_wp_run (Or.inl rfl) (n := 12000) h rfl, h1, h2⟩
theorem mi_e0b_w (X : mi_X) : ∃ c s : Nat, mi_wp X 20 mi_M92 0 [(0, .ref 55)] [] (mi_hp mi_e0a) 0 0 (fun z => z = (.inl (some (.int 1)), mi_hp mi_e0b, c, s)) ∧ c ≤ 1000 ∧ s ≤ 10000 := by
  obtain ⟨c, s, h, h1, h2⟩ := mi_rk_of mi_chk0_l.2.1
  exact ⟨c, s, mi_wp_run (Or.inl rfl) (n := 7000) h rfl, h1, h2⟩
theorem mi_e1_fv : mi_fv (mi_hp mi_e1a) 55 11 0 = some (.int 0) := mi_fck_of mi_chk0_l.2.2.2.2.2
theorem mi_e1a_w (X : mi_X) : ∃ c s : Nat, mi_wp X 20 mi_M9 0 [(0, .ref 0)] [] mi_h2 0 0 (fun z => z = (.inl (some (.int (-1))), mi_hp mi_e1a, c, s)) ∧ c ≤ 1000 ∧ s ≤ 10000 := by
  obtain ⟨c, s, h, h1, h2⟩ := mi_rk_of mi_chk0_l.2.2.2.1
  exact ⟨c, s, mi_wp_run (Or.inl rfl) (n := 12000) h rfl, h1, h2⟩
theorem mi_e1b_w (X : mi_X) : ∃ c s : Nat, mi_wp X 20 mi_M97 0 [(0, .ref 55)] [] (mi_hp mi_e1a) 0 0 (fun z => z = (.inl (some (.int (-1))), mi_hp mi_e1b, c, s)) ∧ c ≤ 1000 ∧ s ≤ 10000 := by
  obtain ⟨c, s, h, h1, h2⟩ := mi_rk_of mi_chk0_l.2.2.2.2.1
  exact ⟨c, s, mi_wp_run (Or.inl rfl) (n := 7000) h rfl, h1, h2⟩
theorem mi_e2_fv : mi_fv (mi_hp mi_e2a) 55 11 0 = some (.int 0) := mi_fck_of mi_chk1_l.2.2.1
theorem mi_e2a_w (X : mi_X) : ∃ c s : Nat, mi_wp X 20 mi_M3 0 [(0, .ref 0)] [] mi_h2 0 0 (fun z => z = (.inl (some (.int 1)), mi_hp mi_e2a, c, s)) ∧ c ≤ 1000 ∧ s ≤ 10000 := by
  obtain ⟨c, s, h, h1, h2⟩ := mi_rk_of mi_chk1_l.1
  exact ⟨c, s, mi_wp_run (Or.inl rfl) (n := 12000) h rfl, h1, h2⟩
theorem mi_e2b_w (X : mi_X) : ∃ c s : Nat, mi_wp X 20 mi_M88 0 [(0, .ref 55)] [] (mi_hp mi_e2a) 0 0 (fun z => z = (.inl (some (.int 1)), mi_hp mi_e2b, c, s)) ∧ c ≤ 1000 ∧ s ≤ 10000 := by
  obtain ⟨c, s, h, h1, h2⟩ := mi_rk_of mi_chk1_l.2.1
  exact ⟨c, s, mi_wp_run (Or.inl rfl) (n := 7000) h rfl, h1, h2⟩
theorem mi_e3_fv : mi_fv (mi_hp mi_e3a) 55 11 0 = some (.int 0) := mi_fck_of mi_chk1_l.2.2.2.2.2.1
theorem mi_e3a_w (X : mi_X) : ∃ c s : Nat, mi_wp X 20 mi_M12 0 [(0, .ref 0)] [] mi_h2 0 0 (fun z => z = (.inl (some (.double 0)), mi_hp mi_e3a, c, s)) ∧ c ≤ 1000 ∧ s ≤ 10000 := by
  obtain ⟨c, s, h, h1, h2⟩ := mi_rk_of mi_chk1_l.2.2.2.1
  exact ⟨c, s, mi_wp_run (Or.inl rfl) (n := 12000) h rfl, h1, h2⟩
theorem mi_e3b_w (X : mi_X) : ∃ c s : Nat, mi_wp X 20 mi_M113 0 [(0, .ref 55)] [] (mi_hp mi_e3a) 0 0 (fun z => z = (.inl (some (.double 0)), mi_hp mi_e3b, c, s)) ∧ c ≤ 1000 ∧ s ≤ 10000 := by
  obtain ⟨c, s, h, h1, h2⟩ := mi_rk_of mi_chk1_l.2.2.2.2.1
  exact ⟨c, s, mi_wp_run (Or.inl rfl) (n := 7000) h rfl, h1, h2⟩
theorem mi_e4_fv : mi_fv (mi_hp mi_e4a) 55 11 0 = some (.int 0) := mi_fck_of mi_chk1_l.2.2.2.2.2.2.2.2
theorem mi_e4a_w (X : mi_X) : ∃ c s : Nat, mi_wp X 20 mi_M8 0 [(0, .ref 0)] [] mi_h2 0 0 (fun z => z = (.inl (some (.long 11709322759)), mi_hp mi_e4a, c, s)) ∧ c ≤ 1000 ∧ s ≤ 10000 := by
  obtain ⟨c, s, h, h1, h2⟩ := mi_rk_of mi_chk1_l.2.2.2.2.2.2.1
  exact ⟨c, s, mi_wp_run (Or.inl rfl) (n := 12000) h rfl, h1, h2⟩
theorem mi_e4b_w (X : mi_X) : ∃ c s : Nat, mi_wp X 20 mi_M96 0 [(0, .ref 55)] [] (mi_hp mi_e4a) 0 0 (fun z => z = (.inl (some (.long 11709322759)), mi_hp mi_e4b, c, s)) ∧ c ≤ 1000 ∧ s ≤ 10000 := by
  obtain ⟨c, s, h, h1, h2⟩ := mi_rk_of mi_chk1_l.2.2.2.2.2.2.2.1
  exact ⟨c, s, mi_wp_run (Or.inl rfl) (n := 7000) h rfl, h1, h2⟩
