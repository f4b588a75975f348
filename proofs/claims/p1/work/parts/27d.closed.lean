/-! ===== what lies in the cells behind both constructors ===== -/
theorem mi_f_0_0 : mi_fv mi_hA 0 10 0 = some (.ref 1) := mi_fck_of mi_chk1_l.2.2.2.2.1
theorem mi_f_0_4 : mi_fv mi_hA 0 10 4 = some (.ref 17) := mi_fck_of mi_chk1_l.2.2.2.2.2.1
theorem mi_f_0_5 : mi_fv mi_hA 0 10 5 = some (.ref 26) := mi_fck_of mi_chk1_l.2.2.2.2.2.2.1
theorem mi_f_0_9 : mi_fv mi_hA 0 10 9 = some (.ref 52) := mi_fck_of mi_chk1_l.2.2.2.2.2.2.2.1
theorem mi_f_0_10 : mi_fv mi_hA 0 10 10 = some (.int 0) := mi_fck_of mi_chk1_l.2.2.2.2.2.2.2.2.1
theorem mi_f_17_12 : mi_fv mi_hA 17 3 12 = some (.int 3) := mi_fck_of mi_chk1_l.2.2.2.2.2.2.2.2.2.1
theorem mi_f_17_13 : mi_fv mi_hA 17 3 13 = some (.int 2) := mi_fck_of mi_chk1_l.2.2.2.2.2.2.2.2.2.2.1
theorem mi_f_17_14 : mi_fv mi_hA 17 3 14 = some (.int 0) := mi_fck_of mi_chk1_l.2.2.2.2.2.2.2.2.2.2.2.1
theorem mi_f_26_7 : mi_fv mi_hA 26 6 7 = some (.int 0) := mi_fck_of mi_chk1_l.2.2.2.2.2.2.2.2.2.2.2.2.1
theorem mi_f_52_5 : mi_fv mi_hA 52 9 5 = some (.int 0) := mi_fck_of mi_chk1_l.2.2.2.2.2.2.2.2.2.2.2.2.2.1
theorem mi_f_55_0 : mi_fv mi_hB 55 11 0 = some (.int 0) := mi_fck_of mi_chk2_l.2.2.2.2.2.1
theorem mi_f_55_1 : mi_fv mi_hB 55 11 1 = some (.ref 56) := mi_fck_of mi_chk2_l.2.2.2.2.2.2.1
theorem mi_f_55_2 : mi_fv mi_hB 55 11 2 = some (.int 0) := mi_fck_of mi_chk2_l.2.2.2.2.2.2.2.1
theorem mi_f_55_9 : mi_fv mi_hB 55 11 9 = some (.int 0) := mi_fck_of mi_chk2_l.2.2.2.2.2.2.2.2.1
theorem mi_f_55_27 : mi_fv mi_hB 55 11 27 = some (.int 1) := mi_fck_of mi_chk2_l.2.2.2.2.2.2.2.2.2.1
theorem mi_f_55_30 : mi_fv mi_hB 55 11 30 = some (.int 2) := mi_fck_of mi_chk2_l.2.2.2.2.2.2.2.2.2.2.1
theorem mi_f_55_34 : mi_fv mi_hB 55 11 34 = some (.int 0) := mi_fck_of mi_chk2_l.2.2.2.2.2.2.2.2.2.2.2.1
theorem mi_f_55_52 : mi_fv mi_hB 55 11 52 = some (.int 0) := mi_fck_of mi_chk2_l.2.2.2.2.2.2.2.2.2.2.2.2.1
theorem mi_f_a1 : ∃ g, mi_ai mi_hA 1 = some (2, 1200, g) := mi_ack_of mi_chk1_l.2.2.2.2.2.2.2.2.2.2.2.2.2.2.1
theorem mi_f_a56 : ∃ g, mi_ai mi_hB 56 = some (0, 1200, g) := mi_ack_of mi_chk2_l.2.2.2.2.2.2.2.2.2.2.2.2.2.1
theorem mi_f_a98 : ∃ f, mi_al mi_hB 98 = some (1, f) := mi_lck_of mi_chk2_l.2.2.2.2.2.2.2.2.2.2.2.2.2.2.1
theorem mi_f_lenA : mi_hA.length = 99 := of_decide_eq_true mi_chk1_l.2.2.2.2.2.2.2.2.2.2.2.2.2.2.2
theorem mi_f_lenB : mi_hB.length = 99 := of_decide_eq_true mi_chk2_l.2.2.2.2.2.2.2.2.2.2.2.2.2.2.2.1
theorem mi_r1d_k : mi_k0 mi_r1d = some (98, 42, 1279348) := of_decide_eq_true mi_chk2_l.2.2.2.2.2.2.2.2.2.2.2.2.2.2.2.2
/-- the class's own cells are not known to the reference's constructor: it leaves them as they are -/
theorem mi_lq_0 : mi_lq (List.replicate 55 mi_du ++ [mi_fresh 11]) (mi_h0 ++ [mi_fresh 11]) := by
  have l0 : mi_h0.length = 55 := (mi_k0_ok mi_r0_k).2
  refine ⟨by simp [l0], fun k => ?_⟩
  by_cases hk : k < 55
  · refine Or.inr ?_
    rw [List.getElem?_append_left (by simpa using hk), List.getElem?_replicate, if_pos hk]
  · refine Or.inl ?_
    rw [List.getElem?_append_right (by simp; omega), List.getElem?_append_right (by omega), l0]
    simp
theorem mi_both : ∃ h1 : mi_H, mi_run none 3000 20 mi_M87 0 [(0, .ref 55)] [] (mi_h0 ++ [mi_fresh 11]) 0 0 = some (.inl none, h1, 42, 1279348) ∧ h1.length = 98 ∧ mi_lq mi_hA (h1 ++ [mi_out]) ∧ mi_lq mi_hB (h1 ++ [mi_out]) := by
  obtain ⟨e, ln⟩ := mi_k0_ok mi_r1d_k
  obtain ⟨h1, e1, k1⟩ := mi_run_le 3000 20 mi_M87 0 [(0, .ref 55)] [] _ _ 0 0 _ mi_lq_0 e
  dsimp only at k1 e1
  have l0 : mi_h0.length = 55 := (mi_k0_ok mi_r0_k).2
  have l1 : h1.length = 98 := k1.1.1.symm.trans ln
  refine ⟨h1, e1, l1, ⟨by rw [mi_f_lenA]; simp [l1], fun k => ?_⟩, (mi_lq_app k1.1).1⟩
  by_cases hk : k < 55
  · refine Or.inl ?_
    have h2 := k1.2 k (by rw [List.getElem?_append_left (by simpa using hk), List.getElem?_replicate, if_pos hk])
    have h3 : mi_hA[k]? = mi_h0[k]? := List.getElem?_append_left (by rw [l0]; exact hk)
    rw [h3, List.getElem?_append_left (by rw [l1]; omega), h2.1, List.getElem?_append_left (by rw [l0]; exact hk)]
  · by_cases hk2 : k < 99
    · refine Or.inr ?_
      have h3 : mi_hA[k]? = (List.replicate 44 mi_du)[k - mi_h0.length]? := List.getElem?_append_right (by rw [l0]; omega)
      rw [h3, List.getElem?_replicate, if_pos (by rw [l0]; omega)]
    · refine Or.inl ?_
      rw [List.getElem?_eq_none (by rw [mi_f_lenA]; omega), List.getElem?_eq_none (by simp [l1]; omega)]
theorem mi_hB_du (k : Nat) (hk : k < 55) : mi_hB[k]? = some mi_du := by
  obtain ⟨e, ln⟩ := mi_k0_ok mi_r1d_k
  obtain ⟨h1, e1, k1⟩ := mi_run_le 3000 20 mi_M87 0 [(0, .ref 55)] [] _ _ 0 0 _ mi_lq_0 e
  dsimp only at k1 e1
  have h2 := (k1.2 k (by rw [List.getElem?_append_left (by simpa using hk), List.getElem?_replicate, if_pos hk])).2
  have h3 : mi_hB[k]? = (mi_hp mi_r1d)[k]? := by
    unfold mi_hB
    exact List.getElem?_append_left (by rw [ln]; omega)
  rw [h3]
  exact h2
theorem mi_hA_du (k : Nat) (h1 : 55 ≤ k) (h2 : k < 99) : mi_hA[k]? = some mi_du := by
  have l0 : mi_h0.length = 55 := (mi_k0_ok mi_r0_k).2
  have h3 : mi_hA[k]? = (List.replicate 44 mi_du)[k - mi_h0.length]? := List.getElem?_append_right (by rw [l0]; omega)
  rw [h3, List.getElem?_replicate, if_pos (by rw [l0]; omega)]
/-- a call of the class that was evaluated: it leaves the reference's cells -/
theorem mi_eA {M : mi_M} {n : Nat} {v : Value} (q : mi_rk (mi_run none n 20 M 0 [(0, .ref 0)] [] mi_hA 0 0) v = true) {g : mi_H} (qA : mi_lq mi_hA g) (qB : mi_lq mi_hB g) (X : mi_X) : ∃ (g' : mi_H) (c s : Nat), mi_wp X 20 M 0 [(0, .ref 0)] [] g 0 0 (fun z => z = (.inl (some v), g', c, s)) ∧ mi_lq mi_hB g' ∧ c ≤ 1000 ∧ s ≤ 10000 := by
  obtain ⟨c, s, h, h1, h2, h3⟩ := mi_rk_of q
  obtain ⟨g', e, k⟩ := mi_run_le _ _ _ _ _ _ _ _ _ _ _ qA h
  have lg : g'.length = 99 := k.1.1.symm.trans h3
  refine ⟨g', c, s, mi_wp_run (Or.inl rfl) e rfl, ⟨mi_f_lenB.trans lg.symm, fun j => ?_⟩, h1, h2⟩
  by_cases hj : j < 55
  · exact Or.inr (mi_hB_du j hj)
  · by_cases hj2 : j < 99
    · rw [(k.2 j (mi_hA_du j (by omega) hj2)).1]
      exact qB.2 j
    · refine Or.inl ?_
      rw [List.getElem?_eq_none (by rw [mi_f_lenB]; omega), List.getElem?_eq_none (by rw [lg]; omega)]
/-- a call of the reference that was evaluated -/
theorem mi_eB {M : mi_M} {n : Nat} {v : Value} (q : mi_rk (mi_run none n 20 M 0 [(0, .ref 55)] [] mi_hB 0 0) v = true) {g : mi_H} (qB : mi_lq mi_hB g) (X : mi_X) : ∃ (g' : mi_H) (c s : Nat), mi_wp X 20 M 0 [(0, .ref 55)] [] g 0 0 (fun z => z = (.inl (some v), g', c, s)) ∧ c ≤ 1000 ∧ s ≤ 10000 := by
  obtain ⟨c, s, h, h1, h2, -⟩ := mi_rk_of q
  obtain ⟨g', e, -⟩ := mi_run_le _ _ _ _ _ _ _ _ _ _ _ qB h
  exact ⟨g', c, s, mi_wp_run (Or.inl rfl) e rfl, h1, h2⟩

