/-! ===== what a first call reaches, on a fresh object (printed by wip/gen/p1walk.py) ===== -/
theorem mi_wp_l {X : mi_X} {d : Nat} {M : mi_M} {pc : Nat} {l l' : mi_L} {st : List Value} {h : mi_H} {c s : Nat} {Q : mi_Z → Prop} (e : l = l') (k : mi_wp X d M pc l' st h c s Q) : mi_wp X d M pc l st h c s Q := by rw [e]; exact k
theorem mi_ret_i {M : mi_M} {v : Int32} (hr : mi_rt M = some .int) : mi_ret M .ireturn [.int v] = some (some (.int v)) := by
  unfold mi_ret
  simp [hr, narrow]
theorem mi_o0 {f : Nat → Int64} {j : Nat} {v w : Int64} (hj : j = 0) (e : v = w) : vp_updL f j v 0 = w := by
  subst hj e
  exact if_pos rfl
theorem mi_zi {x y : Int32} {h : mi_H} {c s : Nat} (e : x = y) : ((.inl (some (.int x)), h, c, s) : mi_Z) = (.inl (some (.int y)), h, c, s) := by rw [e]
theorem mi_eqi {h : mi_H} {k ci j : Nat} {x y : Int32} (q : mi_fv h k ci j = some (.int x)) (e : x = y) : mi_fv h k ci j = some (.int y) := by rw [← e]; exact q
theorem mi_ix {a lo hi : Int32} (h : hi < lo) : a < lo ∨ hi < a := by
  rw [Int32.lt_iff_toInt_lt] at h
  rw [Int32.lt_iff_toInt_lt, Int32.lt_iff_toInt_lt]
  omega
theorem mi_i0 {a : Int32} (h : a ≠ 0) : a < Int32.ofInt 0 ∨ (0 : Int32) < a := by
  by_cases ha : a < 0
  · exact Or.inl ha
  · exact Or.inr (Int32.lt_of_le_of_ne (mi_ige ha) (Ne.symm h))
theorem mi_k_def {X : mi_X} {d : Nat} {h : mi_H} {a : Int32} (f0 : mi_fv h 17 3 14 = some (.int 0)) : mi_wp X d mi_M31 0 [(0, .ref 17), (1, .int a)] [] h 0 0 (fun z => z = (.inl (some (.int (Int32.ofInt 0))), h, 0, 0)) := by
  by_cases ha : a < 0
  · refine mi_wp_p (pc' := 1) rfl rfl rfl ?_
    refine mi_wp_p (pc' := 16) rfl rfl (mi_br1 (b := true) (t := 16) (decide_eq_true ha) rfl) ?_
    refine mi_wp_p (pc' := 17) rfl rfl rfl ?_
    exact mi_wp_r rfl rfl rfl rfl rfl
  · refine mi_wp_p (pc' := 1) rfl rfl rfl ?_
    refine mi_wp_p (pc' := 4) rfl rfl (mi_br1 (b := false) (t := 16) (decide_eq_false ha) rfl) ?_
    refine mi_wp_p (pc' := 5) rfl rfl rfl ?_
    refine mi_wp_p (pc' := 6) rfl rfl rfl ?_
    refine mi_wp_gf rfl rfl rfl f0 ?_
    refine mi_wp_p (pc' := 16) rfl rfl (mi_br2 (b := true) (t := 16) (decide_eq_true (mi_ige ha)) rfl) ?_
    refine mi_wp_p (pc' := 17) rfl rfl rfl ?_
    exact mi_wp_r rfl rfl rfl rfl rfl
theorem mi_k_ic {X : mi_X} {d : Nat} {h : mi_H} (f0 : mi_fv h 17 3 13 = some (.int 2)) : mi_wp X d mi_M33 0 [(0, .ref 17)] [] h 0 0 (fun z => z = (.inl (some (.int ((2 : Int32) - Int32.ofInt 2))), h, 0, 0)) := by
  refine mi_wp_p (pc' := 1) rfl rfl rfl ?_
  refine mi_wp_gf rfl rfl rfl f0 ?_
  refine mi_wp_p (pc' := 5) rfl rfl rfl ?_
  refine mi_wp_p (pc' := 6) rfl rfl rfl ?_
  exact mi_wp_r rfl rfl rfl rfl rfl
theorem mi_k_hc {X : mi_X} {h : mi_H} {a : Int32} (f0 : mi_fv h 17 3 13 = some (.int 2)) : mi_wp X 18 mi_M32 0 [(0, .ref 17), (1, .int a)] [] h 0 0 (fun z => z = (.inl (some (.int (Int32.ofInt 0))), h, 0, 0)) := by
  have hd : 8 ≤ 18 := by decide
  by_cases ha : a < 0
  · refine mi_wp_p (pc' := 1) rfl rfl rfl ?_
    refine mi_wp_p (pc' := 16) rfl rfl (mi_br1 (b := true) (t := 16) (decide_eq_true ha) rfl) ?_
    refine mi_wp_p (pc' := 17) rfl rfl rfl ?_
    exact mi_wp_r rfl rfl rfl rfl rfl
  · refine mi_wp_p (pc' := 1) rfl rfl rfl ?_
    refine mi_wp_p (pc' := 4) rfl rfl (mi_br1 (b := false) (t := 16) (decide_eq_false ha) rfl) ?_
    refine mi_wp_p (pc' := 5) rfl rfl rfl ?_
    refine mi_wp_p (pc' := 6) rfl rfl rfl ?_
    refine mi_wp_c1 rfl rfl rfl rfl rfl rfl (mi_cal_v (np := 0) rfl rfl rfl rfl (Nat.le_of_ble_eq_true rfl) (Nat.le_of_ble_eq_true rfl) (mi_rc_of f0)) (Nat.le_of_ble_eq_true rfl) (mi_k_ic f0) ?_
    refine mi_wp_p (pc' := 16) rfl rfl (mi_br2 (b := true) (t := 16) (decide_eq_true (mi_ige ha)) rfl) ?_
    refine mi_wp_p (pc' := 17) rfl rfl rfl ?_
    exact mi_wp_r rfl rfl rfl rfl rfl
theorem mi_k_sa {X : mi_X} {d : Nat} {h : mi_H} {a : Int32} (f0 : mi_fv h 26 6 7 = some (.int 0)) : mi_wp X d mi_M55 0 [(0, .ref 26), (1, .int a)] [] h 0 0 (fun z => z = (.inl (some (.int (Int32.ofInt (-1)))), h, 0, 0)) := by
  refine mi_wp_p (pc' := 1) rfl rfl rfl ?_
  refine mi_wp_p (pc' := 2) rfl rfl rfl ?_
  refine mi_wp_m rfl rfl rfl rfl rfl rfl ?_
  refine mi_wp_p (pc' := 5) rfl rfl rfl ?_
  refine mi_wp_p (pc' := 6) rfl rfl rfl ?_
  refine mi_wp_p (pc' := 8) rfl rfl rfl ?_
  refine mi_wp_p (pc' := 10) rfl rfl rfl ?_
  refine mi_wp_p (pc' := 11) rfl rfl rfl ?_
  refine mi_wp_gf rfl rfl rfl f0 ?_
  refine mi_wp_p (pc' := 107) rfl rfl (mi_br2 (b := true) (t := 107) (by decide +kernel) rfl) ?_
  refine mi_wp_p (pc' := 108) rfl rfl rfl ?_
  exact mi_wp_r rfl rfl rfl rfl rfl
theorem mi_k_ws {X : mi_X} {d : Nat} {h : mi_H} (f0 : mi_fv h 52 9 5 = some (.int 0)) : mi_wp X d mi_M75 0 [(0, .ref 52)] [] h 0 0 (fun z => z = (.inl (some (.int 0)), h, 0, 0)) := by
  refine mi_wp_p (pc' := 1) rfl rfl rfl ?_
  refine mi_wp_gf rfl rfl rfl f0 ?_
  exact mi_wp_r rfl rfl rfl rfl rfl
theorem mi_k_it {X : mi_X} {d : Nat} {h : mi_H} (f0 : mi_fv h 17 3 12 = some (.int 3)) : mi_wp X d mi_M34 0 [(0, .ref 17)] [] h 0 0 (fun z => z = (.inl (some (.int 0)), h, 0, 0)) := by
  refine mi_wp_p (pc' := 1) rfl rfl rfl ?_
  refine mi_wp_gf rfl rfl rfl f0 ?_
  refine mi_wp_p (pc' := 5) rfl rfl rfl ?_
  refine mi_wp_p (pc' := 6) rfl rfl rfl ?_
  exact mi_wp_r rfl rfl rfl rfl (mi_zi (by decide +kernel))
theorem mi_k_ic0 {X : mi_X} {d : Nat} {h : mi_H} (f0 : mi_fv h 17 3 13 = some (.int 2)) : mi_wp X d mi_M33 0 [(0, .ref 17)] [] h 0 0 (fun z => z = (.inl (some (.int 0)), h, 0, 0)) := by
  refine mi_wp_p (pc' := 1) rfl rfl rfl ?_
  refine mi_wp_gf rfl rfl rfl f0 ?_
  refine mi_wp_p (pc' := 5) rfl rfl rfl ?_
  refine mi_wp_p (pc' := 6) rfl rfl rfl ?_
  exact mi_wp_r rfl rfl rfl rfl (mi_zi (by decide +kernel))
theorem mi_k_ds {X : mi_X} {d : Nat} {h : mi_H} (f0 : mi_fv h 17 3 14 = some (.int 0)) : mi_wp X d mi_M29 0 [(0, .ref 17)] [] h 0 0 (fun z => z = (.inl (some (.int 0)), h, 0, 0)) := by
  refine mi_wp_p (pc' := 1) rfl rfl rfl ?_
  refine mi_wp_gf rfl rfl rfl f0 ?_
  exact mi_wp_r rfl rfl rfl rfl (mi_zi (by decide +kernel))
theorem mi_c_write {X : mi_X} {h : mi_H} {a : Int32} (g0 : mi_fv h 0 10 4 = some (.ref 17)) (f0 : mi_fv h 17 3 14 = some (.int 0)) : mi_wp X 19 mi_M17 0 [(0, .ref 0), (1, .int a)] [] h 0 0 (fun z => z = (.inr 2, h, 1, 6)) := by
  have hd : 8 ≤ 19 := by decide
  refine mi_wp_p (pc' := 1) rfl rfl rfl ?_
  refine mi_wp_gf rfl rfl rfl g0 ?_
  refine mi_wp_p (pc' := 5) rfl rfl rfl ?_
  refine mi_wp_c1 rfl rfl rfl rfl rfl rfl (mi_cal_v (np := 1) rfl rfl rfl rfl (Nat.le_of_ble_eq_true rfl) (Nat.le_of_ble_eq_true rfl) (mi_rc_of f0)) (Nat.le_of_ble_eq_true rfl) (mi_k_def f0) ?_
  refine mi_wp_p (pc' := 11) rfl rfl (mi_br1 (b := false) (t := 21) (by decide +kernel) rfl) ?_
  exact mi_wp_x rfl hd (Nat.le_of_ble_eq_true rfl) rfl
theorem mi_c_writeConstructor {X : mi_X} {h : mi_H} {a : Int32} (g0 : mi_fv h 0 10 4 = some (.ref 17)) (f0 : mi_fv h 17 3 13 = some (.int 2)) : mi_wp X 19 mi_M19 0 [(0, .ref 0), (1, .int a)] [] h 0 0 (fun z => z = (.inr 2, h, 1, 6)) := by
  have hd : 8 ≤ 19 := by decide
  refine mi_wp_p (pc' := 1) rfl rfl rfl ?_
  refine mi_wp_gf rfl rfl rfl g0 ?_
  refine mi_wp_p (pc' := 5) rfl rfl rfl ?_
  refine mi_wp_c1 rfl rfl rfl rfl rfl rfl (mi_cal_v (np := 1) rfl rfl rfl rfl (Nat.le_of_ble_eq_true rfl) (Nat.le_of_ble_eq_true rfl) (mi_rc_of f0)) (Nat.le_of_ble_eq_true rfl) (mi_k_hc f0) ?_
  refine mi_wp_p (pc' := 11) rfl rfl (mi_br1 (b := false) (t := 21) (by decide +kernel) rfl) ?_
  exact mi_wp_x rfl hd (Nat.le_of_ble_eq_true rfl) rfl
theorem mi_c_writeAt {X : mi_X} {h : mi_H} {a : Int32} (g0 : mi_fv h 0 10 5 = some (.ref 26)) (f0 : mi_fv h 26 6 7 = some (.int 0)) : mi_wp X 19 mi_M18 0 [(0, .ref 0), (1, .int a)] [] h 0 0 (fun z => z = (.inr 2, h, 1, 6)) := by
  have hd : 8 ≤ 19 := by decide
  refine mi_wp_p (pc' := 1) rfl rfl rfl ?_
  refine mi_wp_gf rfl rfl rfl g0 ?_
  refine mi_wp_p (pc' := 5) rfl rfl rfl ?_
  refine mi_wp_c1 rfl rfl rfl rfl rfl rfl (mi_cal_v (np := 1) rfl rfl rfl rfl (Nat.le_of_ble_eq_true rfl) (Nat.le_of_ble_eq_true rfl) (mi_rc_of f0)) (Nat.le_of_ble_eq_true rfl) (mi_k_sa f0) ?_
  refine mi_wp_p (pc' := 9) rfl rfl rfl ?_
  refine mi_wp_p (pc' := 10) rfl rfl rfl ?_
  refine mi_wp_p (pc' := 13) rfl rfl (mi_br1 (b := false) (t := 23) (by decide +kernel) rfl) ?_
  exact mi_wp_x rfl hd (Nat.le_of_ble_eq_true rfl) rfl
theorem mi_c_byteAt {X : mi_X} {h : mi_H} {a : Int32} (g0 : mi_fv h 0 10 9 = some (.ref 52)) (f0 : mi_fv h 52 9 5 = some (.int 0)) : mi_wp X 19 mi_M4 0 [(0, .ref 0), (1, .int a)] [] h 0 0 (fun z => z = (.inr 2, h, 1, 6)) := by
  have hd : 8 ≤ 19 := by decide
  by_cases ha : a < 0
  · refine mi_wp_p (pc' := 1) rfl rfl rfl ?_
    refine mi_wp_p (pc' := 15) rfl rfl (mi_br1 (b := true) (t := 15) (decide_eq_true ha) rfl) ?_
    exact mi_wp_x rfl hd (Nat.le_of_ble_eq_true rfl) rfl
  · refine mi_wp_p (pc' := 1) rfl rfl rfl ?_
    refine mi_wp_p (pc' := 4) rfl rfl (mi_br1 (b := false) (t := 15) (decide_eq_false ha) rfl) ?_
    refine mi_wp_p (pc' := 5) rfl rfl rfl ?_
    refine mi_wp_p (pc' := 6) rfl rfl rfl ?_
    refine mi_wp_gf rfl rfl rfl g0 ?_
    refine mi_wp_c1 rfl rfl rfl rfl rfl rfl (mi_cal_v (np := 0) rfl rfl rfl rfl (Nat.le_of_ble_eq_true rfl) (Nat.le_of_ble_eq_true rfl) (mi_rc_of f0)) (Nat.le_of_ble_eq_true rfl) (mi_k_ws f0) ?_
    refine mi_wp_p (pc' := 15) rfl rfl (mi_br2 (b := false) (t := 25) (decide_eq_false ha) rfl) ?_
    exact mi_wp_x rfl hd (Nat.le_of_ble_eq_true rfl) rfl
theorem mi_c_measure {X : mi_X} {h : mi_H} {a b : Int32} (g0 : mi_fv h 0 10 4 = some (.ref 17)) (f0 : mi_fv h 17 3 14 = some (.int 0)) : mi_wp X 19 mi_M13 0 [(0, .ref 0), (1, .int a), (2, .int b)] [] h 0 0 (fun z => z = (.inr 2, h, 1, 6)) := by
  have hd : 8 ≤ 19 := by decide
  refine mi_wp_p (pc' := 1) rfl rfl rfl ?_
  refine mi_wp_gf rfl rfl rfl g0 ?_
  refine mi_wp_p (pc' := 5) rfl rfl rfl ?_
  refine mi_wp_c1 rfl rfl rfl rfl rfl rfl (mi_cal_v (np := 1) rfl rfl rfl rfl (Nat.le_of_ble_eq_true rfl) (Nat.le_of_ble_eq_true rfl) (mi_rc_of f0)) (Nat.le_of_ble_eq_true rfl) (mi_k_def f0) ?_
  refine mi_wp_p (pc' := 20) rfl rfl (mi_br1 (b := true) (t := 20) (by decide +kernel) rfl) ?_
  exact mi_wp_x rfl hd (Nat.le_of_ble_eq_true rfl) rfl
theorem mi_c_uses {X : mi_X} {h : mi_H} {a b : Int32} (g0 : mi_fv h 0 10 4 = some (.ref 17)) (f0 : mi_fv h 17 3 14 = some (.int 0)) : mi_wp X 19 mi_M16 0 [(0, .ref 0), (1, .int a), (2, .int b)] [] h 0 0 (fun z => z = (.inr 2, h, 1, 6)) := by
  have hd : 8 ≤ 19 := by decide
  refine mi_wp_p (pc' := 1) rfl rfl rfl ?_
  refine mi_wp_gf rfl rfl rfl g0 ?_
  refine mi_wp_p (pc' := 5) rfl rfl rfl ?_
  refine mi_wp_c1 rfl rfl rfl rfl rfl rfl (mi_cal_v (np := 1) rfl rfl rfl rfl (Nat.le_of_ble_eq_true rfl) (Nat.le_of_ble_eq_true rfl) (mi_rc_of f0)) (Nat.le_of_ble_eq_true rfl) (mi_k_def f0) ?_
  refine mi_wp_p (pc' := 22) rfl rfl (mi_br1 (b := true) (t := 22) (by decide +kernel) rfl) ?_
  exact mi_wp_x rfl hd (Nat.le_of_ble_eq_true rfl) rfl
theorem mi_c_covers {X : mi_X} {h : mi_H} {a b : Int32} (g0 : mi_fv h 0 10 4 = some (.ref 17)) (f0 : mi_fv h 17 3 14 = some (.int 0)) : mi_wp X 19 mi_M7 0 [(0, .ref 0), (1, .int a), (2, .int b)] [] h 0 0 (fun z => z = (.inr 2, h, 1, 6)) := by
  have hd : 8 ≤ 19 := by decide
  refine mi_wp_p (pc' := 1) rfl rfl rfl ?_
  refine mi_wp_gf rfl rfl rfl g0 ?_
  refine mi_wp_p (pc' := 5) rfl rfl rfl ?_
  refine mi_wp_c1 rfl rfl rfl rfl rfl rfl (mi_cal_v (np := 1) rfl rfl rfl rfl (Nat.le_of_ble_eq_true rfl) (Nat.le_of_ble_eq_true rfl) (mi_rc_of f0)) (Nat.le_of_ble_eq_true rfl) (mi_k_def f0) ?_
  refine mi_wp_p (pc' := 22) rfl rfl (mi_br1 (b := true) (t := 22) (by decide +kernel) rfl) ?_
  exact mi_wp_x rfl hd (Nat.le_of_ble_eq_true rfl) rfl
theorem mi_c_meet {X : mi_X} {h : mi_H} {a b : Int32} (g0 : mi_fv h 0 10 4 = some (.ref 17)) (f0 : mi_fv h 17 3 14 = some (.int 0)) : mi_wp X 19 mi_M14 0 [(0, .ref 0), (1, .int a), (2, .int b)] [] h 0 0 (fun z => z = (.inr 2, h, 1, 6)) := by
  have hd : 8 ≤ 19 := by decide
  refine mi_wp_p (pc' := 1) rfl rfl rfl ?_
  refine mi_wp_gf rfl rfl rfl g0 ?_
  refine mi_wp_p (pc' := 5) rfl rfl rfl ?_
  refine mi_wp_c1 rfl rfl rfl rfl rfl rfl (mi_cal_v (np := 1) rfl rfl rfl rfl (Nat.le_of_ble_eq_true rfl) (Nat.le_of_ble_eq_true rfl) (mi_rc_of f0)) (Nat.le_of_ble_eq_true rfl) (mi_k_def f0) ?_
  refine mi_wp_p (pc' := 22) rfl rfl (mi_br1 (b := true) (t := 22) (by decide +kernel) rfl) ?_
  exact mi_wp_x rfl hd (Nat.le_of_ble_eq_true rfl) rfl
theorem mi_c_trimx {X : mi_X} {h : mi_H} {a : Int32} (f0 : mi_fv h 0 10 10 = some (.int 0)) (hne : a ≠ 0) : mi_wp X 19 mi_M15 0 [(0, .ref 0), (1, .int a)] [] h 0 0 (fun z => z = (.inr 1, h, 1, 6)) := by
  have hd : 8 ≤ 19 := by decide
  by_cases ha : a < 0
  · refine mi_wp_p (pc' := 1) rfl rfl rfl ?_
    refine mi_wp_p (pc' := 12) rfl rfl (mi_br1 (b := true) (t := 12) (decide_eq_true ha) rfl) ?_
    exact mi_wp_x rfl hd (Nat.le_of_ble_eq_true rfl) rfl
  · refine mi_wp_p (pc' := 1) rfl rfl rfl ?_
    refine mi_wp_p (pc' := 4) rfl rfl (mi_br1 (b := false) (t := 12) (decide_eq_false ha) rfl) ?_
    refine mi_wp_p (pc' := 5) rfl rfl rfl ?_
    refine mi_wp_p (pc' := 6) rfl rfl rfl ?_
    refine mi_wp_gf rfl rfl rfl f0 ?_
    refine mi_wp_p (pc' := 12) rfl rfl (mi_br2 (b := false) (t := 22) (decide_eq_false (fun q => hne (Int32.le_antisymm q (mi_ige ha)))) rfl) ?_
    exact mi_wp_x rfl hd (Nat.le_of_ble_eq_true rfl) rfl
theorem mi_c_trim0 {X : mi_X} {h : mi_H} {f : Nat → Int64} (f0 : mi_fv h 0 10 10 = some (.int 0)) (r0 : mi_fv h 55 11 0 = some (.int 0)) (r1 : mi_fv h 55 11 2 = some (.int 0)) (a1 : mi_al h 98 = some (1, f)) : mi_wp X 19 mi_M15 0 [(0, .ref 0), (1, .int 0)] [] h 0 0 (fun z => ∃ h', z = (.inl (some (.int 0)), h', 0, 0) ∧ mi_fv h' 55 11 0 = some (.int 0) ∧ mi_fv h' 55 11 2 = some (.int 0) ∧ mi_al h' 98 = some (1, f)) := by
  have hd : 8 ≤ 19 := by decide
  refine mi_wp_p (pc' := 1) rfl rfl rfl ?_
  refine mi_wp_p (pc' := 4) rfl rfl (mi_br1 (b := false) (t := 12) (by decide +kernel) rfl) ?_
  refine mi_wp_p (pc' := 5) rfl rfl rfl ?_
  refine mi_wp_p (pc' := 6) rfl rfl rfl ?_
  refine mi_wp_gf rfl rfl rfl f0 ?_
  refine mi_wp_p (pc' := 22) rfl rfl (mi_br2 (b := true) (t := 22) (by decide +kernel) rfl) ?_
  refine mi_wp_p (pc' := 23) rfl rfl rfl ?_
  refine mi_wp_p (pc' := 24) rfl rfl rfl ?_
  refine mi_wp_pfk rfl rfl rfl f0 mi_fit_int (Or.inl rfl) ?_
  intro h1 e1 e2 e3 e4 e5
  replace f0 := mi_eqi (y := 0) e1 (by decide +kernel)
  replace r0 := e2 _ _ _ _ r0 (by decide)
  replace r1 := e2 _ _ _ _ r1 (by decide)
  replace a1 := (e4 _).trans a1
  clear e1 e2 e3 e4 e5
  refine mi_wp_p (pc' := 28) rfl rfl rfl ?_
  exact mi_wp_r rfl rfl rfl rfl ⟨_, rfl, r0, r1, a1⟩
theorem mi_c_countx {X : mi_X} {h : mi_H} {a : Int32} (hx : a < 0 ∨ Int32.ofInt 5 ≤ a) : mi_wp X 19 mi_M6 0 [(0, .ref 0), (1, .int a)] [] h 0 0 (fun z => z = (.inr 2, h, 1, 6)) := by
  have hd : 8 ≤ 19 := by decide
  by_cases ha : a < 0
  · refine mi_wp_p (pc' := 1) rfl rfl rfl ?_
    refine mi_wp_p (pc' := 9) rfl rfl (mi_br1 (b := true) (t := 9) (decide_eq_true ha) rfl) ?_
    exact mi_wp_x rfl hd (Nat.le_of_ble_eq_true rfl) rfl
  · refine mi_wp_p (pc' := 1) rfl rfl rfl ?_
    refine mi_wp_p (pc' := 4) rfl rfl (mi_br1 (b := false) (t := 9) (decide_eq_false ha) rfl) ?_
    refine mi_wp_p (pc' := 5) rfl rfl rfl ?_
    refine mi_wp_p (pc' := 6) rfl rfl rfl ?_
    refine mi_wp_p (pc' := 9) rfl rfl (mi_br2 (b := false) (t := 19) (decide_eq_false (Int32.not_lt.mpr (hx.resolve_left ha))) rfl) ?_
    exact mi_wp_x rfl hd (Nat.le_of_ble_eq_true rfl) rfl
theorem mi_c_amount0 {X : mi_X} {h : mi_H} (g0 : mi_fv h 0 10 4 = some (.ref 17)) (f0 : mi_fv h 17 3 12 = some (.int 3)) : mi_wp X 18 mi_M1 0 [(0, .ref 0), (1, .int 0)] [] h 0 0 (fun z => z = (.inl (some (.int 0)), h, 0, 0)) := by
  have hd : 8 ≤ 18 := by decide
  refine mi_wp_p (pc' := 1) rfl rfl rfl ?_
  refine mi_wp_p (pc' := 32) rfl rfl rfl ?_
  refine mi_wp_p (pc' := 33) rfl rfl rfl ?_
  refine mi_wp_gf rfl rfl rfl g0 ?_
  refine mi_wp_c1 rfl rfl rfl rfl rfl rfl (mi_cal_v (np := 0) rfl rfl rfl rfl (Nat.le_of_ble_eq_true rfl) (Nat.le_of_ble_eq_true rfl) (mi_rc_of f0)) (Nat.le_of_ble_eq_true rfl) (mi_k_it f0) ?_
  exact mi_wp_r rfl rfl rfl rfl rfl
theorem mi_c_count0 {X : mi_X} {h : mi_H} (g0 : mi_fv h 0 10 4 = some (.ref 17)) (f0 : mi_fv h 17 3 12 = some (.int 3)) : mi_wp X 19 mi_M6 0 [(0, .ref 0), (1, .int 0)] [] h 0 0 (fun z => z = (.inl (some (.int 0)), h, 0, 0)) := by
  have hd : 8 ≤ 19 := by decide
  refine mi_wp_p (pc' := 1) rfl rfl rfl ?_
  refine mi_wp_p (pc' := 4) rfl rfl (mi_br1 (b := false) (t := 9) (by decide +kernel) rfl) ?_
  refine mi_wp_p (pc' := 5) rfl rfl rfl ?_
  refine mi_wp_p (pc' := 6) rfl rfl rfl ?_
  refine mi_wp_p (pc' := 19) rfl rfl (mi_br2 (b := true) (t := 19) (by decide +kernel) rfl) ?_
  refine mi_wp_p (pc' := 20) rfl rfl rfl ?_
  refine mi_wp_p (pc' := 21) rfl rfl rfl ?_
  refine mi_wp_c1 rfl rfl rfl rfl rfl rfl (mi_cal_v (np := 1) rfl rfl rfl rfl (Nat.le_of_ble_eq_true rfl) (Nat.le_of_ble_eq_true rfl) (mi_rc_of g0)) (Nat.le_of_ble_eq_true rfl) (mi_c_amount0 g0 f0) ?_
  exact mi_wp_r rfl rfl rfl rfl rfl
theorem mi_c_amount1 {X : mi_X} {h : mi_H} (g0 : mi_fv h 0 10 4 = some (.ref 17)) (f0 : mi_fv h 17 3 13 = some (.int 2)) : mi_wp X 18 mi_M1 0 [(0, .ref 0), (1, .int 1)] [] h 0 0 (fun z => z = (.inl (some (.int 0)), h, 0, 0)) := by
  have hd : 8 ≤ 18 := by decide
  refine mi_wp_p (pc' := 1) rfl rfl rfl ?_
  refine mi_wp_p (pc' := 40) rfl rfl rfl ?_
  refine mi_wp_p (pc' := 41) rfl rfl rfl ?_
  refine mi_wp_gf rfl rfl rfl g0 ?_
  refine mi_wp_c1 rfl rfl rfl rfl rfl rfl (mi_cal_v (np := 0) rfl rfl rfl rfl (Nat.le_of_ble_eq_true rfl) (Nat.le_of_ble_eq_true rfl) (mi_rc_of f0)) (Nat.le_of_ble_eq_true rfl) (mi_k_ic0 f0) ?_
  exact mi_wp_r rfl rfl rfl rfl rfl
theorem mi_c_count1 {X : mi_X} {h : mi_H} (g0 : mi_fv h 0 10 4 = some (.ref 17)) (f0 : mi_fv h 17 3 13 = some (.int 2)) : mi_wp X 19 mi_M6 0 [(0, .ref 0), (1, .int 1)] [] h 0 0 (fun z => z = (.inl (some (.int 0)), h, 0, 0)) := by
  have hd : 8 ≤ 19 := by decide
  refine mi_wp_p (pc' := 1) rfl rfl rfl ?_
  refine mi_wp_p (pc' := 4) rfl rfl (mi_br1 (b := false) (t := 9) (by decide +kernel) rfl) ?_
  refine mi_wp_p (pc' := 5) rfl rfl rfl ?_
  refine mi_wp_p (pc' := 6) rfl rfl rfl ?_
  refine mi_wp_p (pc' := 19) rfl rfl (mi_br2 (b := true) (t := 19) (by decide +kernel) rfl) ?_
  refine mi_wp_p (pc' := 20) rfl rfl rfl ?_
  refine mi_wp_p (pc' := 21) rfl rfl rfl ?_
  refine mi_wp_c1 rfl rfl rfl rfl rfl rfl (mi_cal_v (np := 1) rfl rfl rfl rfl (Nat.le_of_ble_eq_true rfl) (Nat.le_of_ble_eq_true rfl) (mi_rc_of g0)) (Nat.le_of_ble_eq_true rfl) (mi_c_amount1 g0 f0) ?_
  exact mi_wp_r rfl rfl rfl rfl rfl
theorem mi_c_amount2 {X : mi_X} {h : mi_H} (g0 : mi_fv h 0 10 4 = some (.ref 17)) (f0 : mi_fv h 17 3 14 = some (.int 0)) : mi_wp X 18 mi_M1 0 [(0, .ref 0), (1, .int 2)] [] h 0 0 (fun z => z = (.inl (some (.int 0)), h, 0, 0)) := by
  have hd : 8 ≤ 18 := by decide
  refine mi_wp_p (pc' := 1) rfl rfl rfl ?_
  refine mi_wp_p (pc' := 48) rfl rfl rfl ?_
  refine mi_wp_p (pc' := 49) rfl rfl rfl ?_
  refine mi_wp_gf rfl rfl rfl g0 ?_
  refine mi_wp_c1 rfl rfl rfl rfl rfl rfl (mi_cal_v (np := 0) rfl rfl rfl rfl (Nat.le_of_ble_eq_true rfl) (Nat.le_of_ble_eq_true rfl) (mi_rc_of f0)) (Nat.le_of_ble_eq_true rfl) (mi_k_ds f0) ?_
  exact mi_wp_r rfl rfl rfl rfl rfl
theorem mi_c_count2 {X : mi_X} {h : mi_H} (g0 : mi_fv h 0 10 4 = some (.ref 17)) (f0 : mi_fv h 17 3 14 = some (.int 0)) : mi_wp X 19 mi_M6 0 [(0, .ref 0), (1, .int 2)] [] h 0 0 (fun z => z = (.inl (some (.int 0)), h, 0, 0)) := by
  have hd : 8 ≤ 19 := by decide
  refine mi_wp_p (pc' := 1) rfl rfl rfl ?_
  refine mi_wp_p (pc' := 4) rfl rfl (mi_br1 (b := false) (t := 9) (by decide +kernel) rfl) ?_
  refine mi_wp_p (pc' := 5) rfl rfl rfl ?_
  refine mi_wp_p (pc' := 6) rfl rfl rfl ?_
  refine mi_wp_p (pc' := 19) rfl rfl (mi_br2 (b := true) (t := 19) (by decide +kernel) rfl) ?_
  refine mi_wp_p (pc' := 20) rfl rfl rfl ?_
  refine mi_wp_p (pc' := 21) rfl rfl rfl ?_
  refine mi_wp_c1 rfl rfl rfl rfl rfl rfl (mi_cal_v (np := 1) rfl rfl rfl rfl (Nat.le_of_ble_eq_true rfl) (Nat.le_of_ble_eq_true rfl) (mi_rc_of g0)) (Nat.le_of_ble_eq_true rfl) (mi_c_amount2 g0 f0) ?_
  exact mi_wp_r rfl rfl rfl rfl rfl
theorem mi_c_amount3 {X : mi_X} {h : mi_H} (f0 : mi_fv h 0 10 10 = some (.int 0)) : mi_wp X 18 mi_M1 0 [(0, .ref 0), (1, .int 3)] [] h 0 0 (fun z => z = (.inl (some (.int 0)), h, 0, 0)) := by
  have hd : 8 ≤ 18 := by decide
  refine mi_wp_p (pc' := 1) rfl rfl rfl ?_
  refine mi_wp_p (pc' := 56) rfl rfl rfl ?_
  refine mi_wp_p (pc' := 57) rfl rfl rfl ?_
  refine mi_wp_gf rfl rfl rfl f0 ?_
  exact mi_wp_r rfl rfl rfl rfl rfl
theorem mi_c_count3 {X : mi_X} {h : mi_H} (f0 : mi_fv h 0 10 10 = some (.int 0)) : mi_wp X 19 mi_M6 0 [(0, .ref 0), (1, .int 3)] [] h 0 0 (fun z => z = (.inl (some (.int 0)), h, 0, 0)) := by
  have hd : 8 ≤ 19 := by decide
  refine mi_wp_p (pc' := 1) rfl rfl rfl ?_
  refine mi_wp_p (pc' := 4) rfl rfl (mi_br1 (b := false) (t := 9) (by decide +kernel) rfl) ?_
  refine mi_wp_p (pc' := 5) rfl rfl rfl ?_
  refine mi_wp_p (pc' := 6) rfl rfl rfl ?_
  refine mi_wp_p (pc' := 19) rfl rfl (mi_br2 (b := true) (t := 19) (by decide +kernel) rfl) ?_
  refine mi_wp_p (pc' := 20) rfl rfl rfl ?_
  refine mi_wp_p (pc' := 21) rfl rfl rfl ?_
  refine mi_wp_c1 rfl rfl rfl rfl rfl rfl (mi_cal_v (np := 1) rfl rfl rfl rfl (Nat.le_of_ble_eq_true rfl) (Nat.le_of_ble_eq_true rfl) (mi_rc_of f0)) (Nat.le_of_ble_eq_true rfl) (mi_c_amount3 f0) ?_
  exact mi_wp_r rfl rfl rfl rfl rfl
theorem mi_c_amount4 {X : mi_X} {h : mi_H} (g0 : mi_fv h 0 10 9 = some (.ref 52)) (f0 : mi_fv h 52 9 5 = some (.int 0)) : mi_wp X 18 mi_M1 0 [(0, .ref 0), (1, .int 4)] [] h 0 0 (fun z => z = (.inl (some (.int 0)), h, 0, 0)) := by
  have hd : 8 ≤ 18 := by decide
  refine mi_wp_p (pc' := 1) rfl rfl rfl ?_
  refine mi_wp_p (pc' := 61) rfl rfl rfl ?_
  refine mi_wp_p (pc' := 62) rfl rfl rfl ?_
  refine mi_wp_gf rfl rfl rfl g0 ?_
  refine mi_wp_c1 rfl rfl rfl rfl rfl rfl (mi_cal_v (np := 0) rfl rfl rfl rfl (Nat.le_of_ble_eq_true rfl) (Nat.le_of_ble_eq_true rfl) (mi_rc_of f0)) (Nat.le_of_ble_eq_true rfl) (mi_k_ws f0) ?_
  exact mi_wp_r rfl rfl rfl rfl rfl
theorem mi_c_count4 {X : mi_X} {h : mi_H} (g0 : mi_fv h 0 10 9 = some (.ref 52)) (f0 : mi_fv h 52 9 5 = some (.int 0)) : mi_wp X 19 mi_M6 0 [(0, .ref 0), (1, .int 4)] [] h 0 0 (fun z => z = (.inl (some (.int 0)), h, 0, 0)) := by
  have hd : 8 ≤ 19 := by decide
  refine mi_wp_p (pc' := 1) rfl rfl rfl ?_
  refine mi_wp_p (pc' := 4) rfl rfl (mi_br1 (b := false) (t := 9) (by decide +kernel) rfl) ?_
  refine mi_wp_p (pc' := 5) rfl rfl rfl ?_
  refine mi_wp_p (pc' := 6) rfl rfl rfl ?_
  refine mi_wp_p (pc' := 19) rfl rfl (mi_br2 (b := true) (t := 19) (by decide +kernel) rfl) ?_
  refine mi_wp_p (pc' := 20) rfl rfl rfl ?_
  refine mi_wp_p (pc' := 21) rfl rfl rfl ?_
  refine mi_wp_c1 rfl rfl rfl rfl rfl rfl (mi_cal_v (np := 1) rfl rfl rfl rfl (Nat.le_of_ble_eq_true rfl) (Nat.le_of_ble_eq_true rfl) (mi_rc_of g0)) (Nat.le_of_ble_eq_true rfl) (mi_c_amount4 g0 f0) ?_
  exact mi_wp_r rfl rfl rfl rfl rfl
theorem mi_l_write {X : mi_X} {h : mi_H} {a : Int32} (g0 : mi_fv h 0 10 4 = some (.ref 17)) (f0 : mi_fv h 17 3 14 = some (.int 0)) : mi_wp X 20 mi_M84 0 [(0, .ref 0), (1, .int a), (2, .ref 98)] [] h 0 0 (fun z => z = (.inl (some (.int (Int32.ofInt 1))), h, 1, 6)) := by
  have hd : 8 ≤ 20 := by decide
  refine mi_wp_p (pc' := 1) rfl rfl rfl ?_
  refine mi_wp_p (pc' := 2) rfl rfl rfl ?_
  refine mi_wp_p (pc' := 3) rfl rfl rfl ?_
  refine mi_wp_p (pc' := 4) rfl rfl rfl ?_
  refine mi_wp_cx rfl rfl rfl rfl rfl rfl (mi_cal_v (np := 1) rfl rfl rfl rfl (Nat.le_of_ble_eq_true rfl) (Nat.le_of_ble_eq_true rfl) (mi_rc_of g0)) (Nat.le_of_ble_eq_true rfl) (mi_c_write g0 f0) rfl rfl ?_
  refine mi_wp_p (pc' := 13) rfl rfl rfl ?_
  refine mi_wp_p (pc' := 14) rfl rfl rfl ?_
  exact mi_wp_r rfl rfl rfl rfl rfl
theorem mi_l_writeConstructor {X : mi_X} {h : mi_H} {a : Int32} (g0 : mi_fv h 0 10 4 = some (.ref 17)) (f0 : mi_fv h 17 3 13 = some (.int 2)) : mi_wp X 20 mi_M86 0 [(0, .ref 0), (1, .int a), (2, .ref 98)] [] h 0 0 (fun z => z = (.inl (some (.int (Int32.ofInt 1))), h, 1, 6)) := by
  have hd : 8 ≤ 20 := by decide
  refine mi_wp_p (pc' := 1) rfl rfl rfl ?_
  refine mi_wp_p (pc' := 2) rfl rfl rfl ?_
  refine mi_wp_p (pc' := 3) rfl rfl rfl ?_
  refine mi_wp_p (pc' := 4) rfl rfl rfl ?_
  refine mi_wp_cx rfl rfl rfl rfl rfl rfl (mi_cal_v (np := 1) rfl rfl rfl rfl (Nat.le_of_ble_eq_true rfl) (Nat.le_of_ble_eq_true rfl) (mi_rc_of g0)) (Nat.le_of_ble_eq_true rfl) (mi_c_writeConstructor g0 f0) rfl rfl ?_
  refine mi_wp_p (pc' := 13) rfl rfl rfl ?_
  refine mi_wp_p (pc' := 14) rfl rfl rfl ?_
  exact mi_wp_r rfl rfl rfl rfl rfl
theorem mi_l_writeAt {X : mi_X} {h : mi_H} {a : Int32} (g0 : mi_fv h 0 10 5 = some (.ref 26)) (f0 : mi_fv h 26 6 7 = some (.int 0)) : mi_wp X 20 mi_M85 0 [(0, .ref 0), (1, .int a), (2, .ref 98)] [] h 0 0 (fun z => z = (.inl (some (.int (Int32.ofInt 1))), h, 1, 6)) := by
  have hd : 8 ≤ 20 := by decide
  refine mi_wp_p (pc' := 1) rfl rfl rfl ?_
  refine mi_wp_p (pc' := 2) rfl rfl rfl ?_
  refine mi_wp_p (pc' := 3) rfl rfl rfl ?_
  refine mi_wp_p (pc' := 4) rfl rfl rfl ?_
  refine mi_wp_cx rfl rfl rfl rfl rfl rfl (mi_cal_v (np := 1) rfl rfl rfl rfl (Nat.le_of_ble_eq_true rfl) (Nat.le_of_ble_eq_true rfl) (mi_rc_of g0)) (Nat.le_of_ble_eq_true rfl) (mi_c_writeAt g0 f0) rfl rfl ?_
  refine mi_wp_p (pc' := 13) rfl rfl rfl ?_
  refine mi_wp_p (pc' := 14) rfl rfl rfl ?_
  exact mi_wp_r rfl rfl rfl rfl rfl
theorem mi_l_byteAt {X : mi_X} {h : mi_H} {a : Int32} (g0 : mi_fv h 0 10 9 = some (.ref 52)) (f0 : mi_fv h 52 9 5 = some (.int 0)) : mi_wp X 20 mi_M76 0 [(0, .ref 0), (1, .int a), (2, .ref 98)] [] h 0 0 (fun z => z = (.inl (some (.int (Int32.ofInt 1))), h, 1, 6)) := by
  have hd : 8 ≤ 20 := by decide
  refine mi_wp_p (pc' := 1) rfl rfl rfl ?_
  refine mi_wp_p (pc' := 2) rfl rfl rfl ?_
  refine mi_wp_p (pc' := 3) rfl rfl rfl ?_
  refine mi_wp_p (pc' := 4) rfl rfl rfl ?_
  refine mi_wp_cx rfl rfl rfl rfl rfl rfl (mi_cal_v (np := 1) rfl rfl rfl rfl (Nat.le_of_ble_eq_true rfl) (Nat.le_of_ble_eq_true rfl) (mi_rc_of g0)) (Nat.le_of_ble_eq_true rfl) (mi_c_byteAt g0 f0) rfl rfl ?_
  refine mi_wp_p (pc' := 13) rfl rfl rfl ?_
  refine mi_wp_p (pc' := 14) rfl rfl rfl ?_
  exact mi_wp_r rfl rfl rfl rfl rfl
theorem mi_l_measure {X : mi_X} {h : mi_H} {a b : Int32} (g0 : mi_fv h 0 10 4 = some (.ref 17)) (f0 : mi_fv h 17 3 14 = some (.int 0)) : mi_wp X 20 mi_M80 0 [(0, .ref 0), (1, .int a), (2, .int b), (3, .ref 98)] [] h 0 0 (fun z => z = (.inl (some (.int (Int32.ofInt 1))), h, 1, 6)) := by
  have hd : 8 ≤ 20 := by decide
  refine mi_wp_p (pc' := 1) rfl rfl rfl ?_
  refine mi_wp_p (pc' := 2) rfl rfl rfl ?_
  refine mi_wp_p (pc' := 3) rfl rfl rfl ?_
  refine mi_wp_p (pc' := 4) rfl rfl rfl ?_
  refine mi_wp_p (pc' := 5) rfl rfl rfl ?_
  refine mi_wp_cx rfl rfl rfl rfl rfl rfl (mi_cal_v (np := 2) rfl rfl rfl rfl (Nat.le_of_ble_eq_true rfl) (Nat.le_of_ble_eq_true rfl) (mi_rc_of g0)) (Nat.le_of_ble_eq_true rfl) (mi_c_measure g0 f0) rfl rfl ?_
  refine mi_wp_p (pc' := 15) rfl rfl rfl ?_
  refine mi_wp_p (pc' := 16) rfl rfl rfl ?_
  exact mi_wp_r rfl rfl rfl rfl rfl
theorem mi_l_uses {X : mi_X} {h : mi_H} {a b : Int32} (g0 : mi_fv h 0 10 4 = some (.ref 17)) (f0 : mi_fv h 17 3 14 = some (.int 0)) : mi_wp X 20 mi_M83 0 [(0, .ref 0), (1, .int a), (2, .int b), (3, .ref 98)] [] h 0 0 (fun z => z = (.inl (some (.int (Int32.ofInt 1))), h, 1, 6)) := by
  have hd : 8 ≤ 20 := by decide
  refine mi_wp_p (pc' := 1) rfl rfl rfl ?_
  refine mi_wp_p (pc' := 2) rfl rfl rfl ?_
  refine mi_wp_p (pc' := 3) rfl rfl rfl ?_
  refine mi_wp_p (pc' := 4) rfl rfl rfl ?_
  refine mi_wp_p (pc' := 5) rfl rfl rfl ?_
  refine mi_wp_cx rfl rfl rfl rfl rfl rfl (mi_cal_v (np := 2) rfl rfl rfl rfl (Nat.le_of_ble_eq_true rfl) (Nat.le_of_ble_eq_true rfl) (mi_rc_of g0)) (Nat.le_of_ble_eq_true rfl) (mi_c_uses g0 f0) rfl rfl ?_
  refine mi_wp_p (pc' := 15) rfl rfl rfl ?_
  refine mi_wp_p (pc' := 16) rfl rfl rfl ?_
  exact mi_wp_r rfl rfl rfl rfl rfl
theorem mi_l_covers {X : mi_X} {h : mi_H} {a b : Int32} (g0 : mi_fv h 0 10 4 = some (.ref 17)) (f0 : mi_fv h 17 3 14 = some (.int 0)) : mi_wp X 20 mi_M78 0 [(0, .ref 0), (1, .int a), (2, .int b), (3, .ref 98)] [] h 0 0 (fun z => z = (.inl (some (.int (Int32.ofInt 1))), h, 1, 6)) := by
  have hd : 8 ≤ 20 := by decide
  refine mi_wp_p (pc' := 1) rfl rfl rfl ?_
  refine mi_wp_p (pc' := 2) rfl rfl rfl ?_
  refine mi_wp_p (pc' := 3) rfl rfl rfl ?_
  refine mi_wp_p (pc' := 4) rfl rfl rfl ?_
  refine mi_wp_p (pc' := 5) rfl rfl rfl ?_
  refine mi_wp_cx rfl rfl rfl rfl rfl rfl (mi_cal_v (np := 2) rfl rfl rfl rfl (Nat.le_of_ble_eq_true rfl) (Nat.le_of_ble_eq_true rfl) (mi_rc_of g0)) (Nat.le_of_ble_eq_true rfl) (mi_c_covers g0 f0) rfl rfl ?_
  refine mi_wp_p (pc' := 22) rfl rfl rfl ?_
  refine mi_wp_p (pc' := 23) rfl rfl rfl ?_
  exact mi_wp_r rfl rfl rfl rfl rfl
theorem mi_l_meet {X : mi_X} {h : mi_H} {a b : Int32} (g0 : mi_fv h 0 10 4 = some (.ref 17)) (f0 : mi_fv h 17 3 14 = some (.int 0)) : mi_wp X 20 mi_M81 0 [(0, .ref 0), (1, .int a), (2, .int b), (3, .ref 98)] [] h 0 0 (fun z => z = (.inl (some (.int (Int32.ofInt 1))), h, 1, 6)) := by
  have hd : 8 ≤ 20 := by decide
  refine mi_wp_p (pc' := 1) rfl rfl rfl ?_
  refine mi_wp_p (pc' := 2) rfl rfl rfl ?_
  refine mi_wp_p (pc' := 3) rfl rfl rfl ?_
  refine mi_wp_p (pc' := 4) rfl rfl rfl ?_
  refine mi_wp_p (pc' := 5) rfl rfl rfl ?_
  refine mi_wp_cx rfl rfl rfl rfl rfl rfl (mi_cal_v (np := 2) rfl rfl rfl rfl (Nat.le_of_ble_eq_true rfl) (Nat.le_of_ble_eq_true rfl) (mi_rc_of g0)) (Nat.le_of_ble_eq_true rfl) (mi_c_meet g0 f0) rfl rfl ?_
  refine mi_wp_p (pc' := 15) rfl rfl rfl ?_
  refine mi_wp_p (pc' := 16) rfl rfl rfl ?_
  exact mi_wp_r rfl rfl rfl rfl rfl
theorem mi_l_trim {X : mi_X} {h : mi_H} {a : Int32} (f0 : mi_fv h 0 10 10 = some (.int 0)) (hne : a ≠ 0) : mi_wp X 20 mi_M82 0 [(0, .ref 0), (1, .int a), (2, .ref 98)] [] h 0 0 (fun z => z = (.inl (some (.int (Int32.ofInt 1))), h, 1, 6)) := by
  have hd : 8 ≤ 20 := by decide
  refine mi_wp_p (pc' := 1) rfl rfl rfl ?_
  refine mi_wp_p (pc' := 2) rfl rfl rfl ?_
  refine mi_wp_p (pc' := 3) rfl rfl rfl ?_
  refine mi_wp_p (pc' := 4) rfl rfl rfl ?_
  refine mi_wp_cx rfl rfl rfl rfl rfl rfl (mi_cal_v (np := 1) rfl rfl rfl rfl (Nat.le_of_ble_eq_true rfl) (Nat.le_of_ble_eq_true rfl) (mi_rc_of f0)) (Nat.le_of_ble_eq_true rfl) (mi_c_trimx f0 hne) rfl rfl ?_
  refine mi_wp_p (pc' := 13) rfl rfl rfl ?_
  refine mi_wp_p (pc' := 14) rfl rfl rfl ?_
  exact mi_wp_r rfl rfl rfl rfl rfl
theorem mi_l_count {X : mi_X} {h : mi_H} {a : Int32} (f0 : mi_fv h 0 10 10 = some (.int 0)) (hx : a < 0 ∨ Int32.ofInt 5 ≤ a) : mi_wp X 20 mi_M77 0 [(0, .ref 0), (1, .int a), (2, .ref 98)] [] h 0 0 (fun z => z = (.inl (some (.int (Int32.ofInt 1))), h, 1, 6)) := by
  have hd : 8 ≤ 20 := by decide
  refine mi_wp_p (pc' := 1) rfl rfl rfl ?_
  refine mi_wp_p (pc' := 2) rfl rfl rfl ?_
  refine mi_wp_p (pc' := 3) rfl rfl rfl ?_
  refine mi_wp_p (pc' := 4) rfl rfl rfl ?_
  refine mi_wp_cx rfl rfl rfl rfl rfl rfl (mi_cal_v (np := 1) rfl rfl rfl rfl (Nat.le_of_ble_eq_true rfl) (Nat.le_of_ble_eq_true rfl) (mi_rc_of f0)) (Nat.le_of_ble_eq_true rfl) (mi_c_countx hx) rfl rfl ?_
  refine mi_wp_p (pc' := 13) rfl rfl rfl ?_
  refine mi_wp_p (pc' := 14) rfl rfl rfl ?_
  exact mi_wp_r rfl rfl rfl rfl rfl
theorem mi_l_trim0 {X : mi_X} {h : mi_H} {f : Nat → Int64} (f0 : mi_fv h 0 10 10 = some (.int 0)) (r0 : mi_fv h 55 11 0 = some (.int 0)) (r1 : mi_fv h 55 11 2 = some (.int 0)) (a1 : mi_al h 98 = some (1, f)) : mi_wp X 20 mi_M82 0 [(0, .ref 0), (1, .int 0), (2, .ref 98)] [] h 0 0 (fun z => ∃ h', z = (.inl (some (.int (Int32.ofInt 0))), h', 0, 0) ∧ mi_fv h' 55 11 0 = some (.int 0) ∧ mi_fv h' 55 11 2 = some (.int 0) ∧ (∃ f1 : Nat → Int64, mi_al h' 98 = some (1, f1) ∧ f1 0 = 0)) := by
  have hd : 8 ≤ 20 := by decide
  refine mi_wp_p (pc' := 1) rfl rfl rfl ?_
  refine mi_wp_p (pc' := 2) rfl rfl rfl ?_
  refine mi_wp_p (pc' := 3) rfl rfl rfl ?_
  refine mi_wp_p (pc' := 4) rfl rfl rfl ?_
  refine mi_wp_ce rfl rfl rfl rfl rfl rfl (mi_cal_v (np := 1) rfl rfl rfl rfl (Nat.le_of_ble_eq_true rfl) (Nat.le_of_ble_eq_true rfl) (mi_rc_of f0)) (Nat.le_of_ble_eq_true rfl) (mi_c_trim0 f0 r0 r1 a1) ?_
  intro h1 q1
  obtain ⟨r0, r1, a1⟩ := q1
  refine mi_wp_p (pc' := 8) rfl rfl rfl ?_
  refine mi_wp_lask rfl rfl a1 (by decide +kernel) ?_
  intro h1 e1 e2 e3 e4 e5
  replace r0 := (e2 _ _ _).trans r0
  replace r1 := (e2 _ _ _).trans r1
  replace a1 := e1
  clear e1 e2 e3 e4 e5
  refine mi_wp_p (pc' := 15) rfl rfl rfl ?_
  refine mi_wp_p (pc' := 16) rfl rfl rfl ?_
  exact mi_wp_r rfl rfl rfl rfl ⟨_, rfl, r0, r1, _, a1, mi_o0 (by decide +kernel) (by decide +kernel)⟩
theorem mi_l_count0 {X : mi_X} {h : mi_H} {f : Nat → Int64} (g0 : mi_fv h 0 10 4 = some (.ref 17)) (f0 : mi_fv h 17 3 12 = some (.int 3)) (r0 : mi_fv h 55 11 0 = some (.int 0)) (r1 : mi_fv h 55 11 27 = some (.int 1)) (a1 : mi_al h 98 = some (1, f)) : mi_wp X 20 mi_M77 0 [(0, .ref 0), (1, .int 0), (2, .ref 98)] [] h 0 0 (fun z => ∃ h', z = (.inl (some (.int (Int32.ofInt 0))), h', 0, 0) ∧ mi_fv h' 55 11 0 = some (.int 0) ∧ mi_fv h' 55 11 27 = some (.int 1) ∧ (∃ f1 : Nat → Int64, mi_al h' 98 = some (1, f1) ∧ f1 0 = 0)) := by
  have hd : 8 ≤ 20 := by decide
  refine mi_wp_p (pc' := 1) rfl rfl rfl ?_
  refine mi_wp_p (pc' := 2) rfl rfl rfl ?_
  refine mi_wp_p (pc' := 3) rfl rfl rfl ?_
  refine mi_wp_p (pc' := 4) rfl rfl rfl ?_
  refine mi_wp_c1 rfl rfl rfl rfl rfl rfl (mi_cal_v (np := 1) rfl rfl rfl rfl (Nat.le_of_ble_eq_true rfl) (Nat.le_of_ble_eq_true rfl) (mi_rc_of g0)) (Nat.le_of_ble_eq_true rfl) (mi_c_count0 g0 f0) ?_
  refine mi_wp_p (pc' := 8) rfl rfl rfl ?_
  refine mi_wp_lask rfl rfl a1 (by decide +kernel) ?_
  intro h1 e1 e2 e3 e4 e5
  replace g0 := (e2 _ _ _).trans g0
  replace f0 := (e2 _ _ _).trans f0
  replace r0 := (e2 _ _ _).trans r0
  replace r1 := (e2 _ _ _).trans r1
  replace a1 := e1
  clear e1 e2 e3 e4 e5
  refine mi_wp_p (pc' := 15) rfl rfl rfl ?_
  refine mi_wp_p (pc' := 16) rfl rfl rfl ?_
  exact mi_wp_r rfl rfl rfl rfl ⟨_, rfl, r0, r1, _, a1, mi_o0 (by decide +kernel) (by decide +kernel)⟩
theorem mi_l_count1 {X : mi_X} {h : mi_H} {f : Nat → Int64} (g0 : mi_fv h 0 10 4 = some (.ref 17)) (f0 : mi_fv h 17 3 13 = some (.int 2)) (r0 : mi_fv h 55 11 0 = some (.int 0)) (r1 : mi_fv h 55 11 30 = some (.int 2)) (a1 : mi_al h 98 = some (1, f)) : mi_wp X 20 mi_M77 0 [(0, .ref 0), (1, .int 1), (2, .ref 98)] [] h 0 0 (fun z => ∃ h', z = (.inl (some (.int (Int32.ofInt 0))), h', 0, 0) ∧ mi_fv h' 55 11 0 = some (.int 0) ∧ mi_fv h' 55 11 30 = some (.int 2) ∧ (∃ f1 : Nat → Int64, mi_al h' 98 = some (1, f1) ∧ f1 0 = 0)) := by
  have hd : 8 ≤ 20 := by decide
  refine mi_wp_p (pc' := 1) rfl rfl rfl ?_
  refine mi_wp_p (pc' := 2) rfl rfl rfl ?_
  refine mi_wp_p (pc' := 3) rfl rfl rfl ?_
  refine mi_wp_p (pc' := 4) rfl rfl rfl ?_
  refine mi_wp_c1 rfl rfl rfl rfl rfl rfl (mi_cal_v (np := 1) rfl rfl rfl rfl (Nat.le_of_ble_eq_true rfl) (Nat.le_of_ble_eq_true rfl) (mi_rc_of g0)) (Nat.le_of_ble_eq_true rfl) (mi_c_count1 g0 f0) ?_
  refine mi_wp_p (pc' := 8) rfl rfl rfl ?_
  refine mi_wp_lask rfl rfl a1 (by decide +kernel) ?_
  intro h1 e1 e2 e3 e4 e5
  replace g0 := (e2 _ _ _).trans g0
  replace f0 := (e2 _ _ _).trans f0
  replace r0 := (e2 _ _ _).trans r0
  replace r1 := (e2 _ _ _).trans r1
  replace a1 := e1
  clear e1 e2 e3 e4 e5
  refine mi_wp_p (pc' := 15) rfl rfl rfl ?_
  refine mi_wp_p (pc' := 16) rfl rfl rfl ?_
  exact mi_wp_r rfl rfl rfl rfl ⟨_, rfl, r0, r1, _, a1, mi_o0 (by decide +kernel) (by decide +kernel)⟩
theorem mi_l_count2 {X : mi_X} {h : mi_H} {f : Nat → Int64} (g0 : mi_fv h 0 10 4 = some (.ref 17)) (f0 : mi_fv h 17 3 14 = some (.int 0)) (r0 : mi_fv h 55 11 0 = some (.int 0)) (r1 : mi_fv h 55 11 34 = some (.int 0)) (a1 : mi_al h 98 = some (1, f)) : mi_wp X 20 mi_M77 0 [(0, .ref 0), (1, .int 2), (2, .ref 98)] [] h 0 0 (fun z => ∃ h', z = (.inl (some (.int (Int32.ofInt 0))), h', 0, 0) ∧ mi_fv h' 55 11 0 = some (.int 0) ∧ mi_fv h' 55 11 34 = some (.int 0) ∧ (∃ f1 : Nat → Int64, mi_al h' 98 = some (1, f1) ∧ f1 0 = 0)) := by
  have hd : 8 ≤ 20 := by decide
  refine mi_wp_p (pc' := 1) rfl rfl rfl ?_
  refine mi_wp_p (pc' := 2) rfl rfl rfl ?_
  refine mi_wp_p (pc' := 3) rfl rfl rfl ?_
  refine mi_wp_p (pc' := 4) rfl rfl rfl ?_
  refine mi_wp_c1 rfl rfl rfl rfl rfl rfl (mi_cal_v (np := 1) rfl rfl rfl rfl (Nat.le_of_ble_eq_true rfl) (Nat.le_of_ble_eq_true rfl) (mi_rc_of g0)) (Nat.le_of_ble_eq_true rfl) (mi_c_count2 g0 f0) ?_
  refine mi_wp_p (pc' := 8) rfl rfl rfl ?_
  refine mi_wp_lask rfl rfl a1 (by decide +kernel) ?_
  intro h1 e1 e2 e3 e4 e5
  replace g0 := (e2 _ _ _).trans g0
  replace f0 := (e2 _ _ _).trans f0
  replace r0 := (e2 _ _ _).trans r0
  replace r1 := (e2 _ _ _).trans r1
  replace a1 := e1
  clear e1 e2 e3 e4 e5
  refine mi_wp_p (pc' := 15) rfl rfl rfl ?_
  refine mi_wp_p (pc' := 16) rfl rfl rfl ?_
  exact mi_wp_r rfl rfl rfl rfl ⟨_, rfl, r0, r1, _, a1, mi_o0 (by decide +kernel) (by decide +kernel)⟩
theorem mi_l_count3 {X : mi_X} {h : mi_H} {f : Nat → Int64} (f0 : mi_fv h 0 10 10 = some (.int 0)) (r0 : mi_fv h 55 11 0 = some (.int 0)) (r1 : mi_fv h 55 11 2 = some (.int 0)) (a1 : mi_al h 98 = some (1, f)) : mi_wp X 20 mi_M77 0 [(0, .ref 0), (1, .int 3), (2, .ref 98)] [] h 0 0 (fun z => ∃ h', z = (.inl (some (.int (Int32.ofInt 0))), h', 0, 0) ∧ mi_fv h' 55 11 0 = some (.int 0) ∧ mi_fv h' 55 11 2 = some (.int 0) ∧ (∃ f1 : Nat → Int64, mi_al h' 98 = some (1, f1) ∧ f1 0 = 0)) := by
  have hd : 8 ≤ 20 := by decide
  refine mi_wp_p (pc' := 1) rfl rfl rfl ?_
  refine mi_wp_p (pc' := 2) rfl rfl rfl ?_
  refine mi_wp_p (pc' := 3) rfl rfl rfl ?_
  refine mi_wp_p (pc' := 4) rfl rfl rfl ?_
  refine mi_wp_c1 rfl rfl rfl rfl rfl rfl (mi_cal_v (np := 1) rfl rfl rfl rfl (Nat.le_of_ble_eq_true rfl) (Nat.le_of_ble_eq_true rfl) (mi_rc_of f0)) (Nat.le_of_ble_eq_true rfl) (mi_c_count3 f0) ?_
  refine mi_wp_p (pc' := 8) rfl rfl rfl ?_
  refine mi_wp_lask rfl rfl a1 (by decide +kernel) ?_
  intro h1 e1 e2 e3 e4 e5
  replace f0 := (e2 _ _ _).trans f0
  replace r0 := (e2 _ _ _).trans r0
  replace r1 := (e2 _ _ _).trans r1
  replace a1 := e1
  clear e1 e2 e3 e4 e5
  refine mi_wp_p (pc' := 15) rfl rfl rfl ?_
  refine mi_wp_p (pc' := 16) rfl rfl rfl ?_
  exact mi_wp_r rfl rfl rfl rfl ⟨_, rfl, r0, r1, _, a1, mi_o0 (by decide +kernel) (by decide +kernel)⟩
theorem mi_l_count4 {X : mi_X} {h : mi_H} {f : Nat → Int64} (g0 : mi_fv h 0 10 9 = some (.ref 52)) (f0 : mi_fv h 52 9 5 = some (.int 0)) (r0 : mi_fv h 55 11 0 = some (.int 0)) (r1 : mi_fv h 55 11 9 = some (.int 0)) (a1 : mi_al h 98 = some (1, f)) : mi_wp X 20 mi_M77 0 [(0, .ref 0), (1, .int 4), (2, .ref 98)] [] h 0 0 (fun z => ∃ h', z = (.inl (some (.int (Int32.ofInt 0))), h', 0, 0) ∧ mi_fv h' 55 11 0 = some (.int 0) ∧ mi_fv h' 55 11 9 = some (.int 0) ∧ (∃ f1 : Nat → Int64, mi_al h' 98 = some (1, f1) ∧ f1 0 = 0)) := by
  have hd : 8 ≤ 20 := by decide
  refine mi_wp_p (pc' := 1) rfl rfl rfl ?_
  refine mi_wp_p (pc' := 2) rfl rfl rfl ?_
  refine mi_wp_p (pc' := 3) rfl rfl rfl ?_
  refine mi_wp_p (pc' := 4) rfl rfl rfl ?_
  refine mi_wp_c1 rfl rfl rfl rfl rfl rfl (mi_cal_v (np := 1) rfl rfl rfl rfl (Nat.le_of_ble_eq_true rfl) (Nat.le_of_ble_eq_true rfl) (mi_rc_of g0)) (Nat.le_of_ble_eq_true rfl) (mi_c_count4 g0 f0) ?_
  refine mi_wp_p (pc' := 8) rfl rfl rfl ?_
  refine mi_wp_lask rfl rfl a1 (by decide +kernel) ?_
  intro h1 e1 e2 e3 e4 e5
  replace g0 := (e2 _ _ _).trans g0
  replace f0 := (e2 _ _ _).trans f0
  replace r0 := (e2 _ _ _).trans r0
  replace r1 := (e2 _ _ _).trans r1
  replace a1 := e1
  clear e1 e2 e3 e4 e5
  refine mi_wp_p (pc' := 15) rfl rfl rfl ?_
  refine mi_wp_p (pc' := 16) rfl rfl rfl ?_
  exact mi_wp_r rfl rfl rfl rfl ⟨_, rfl, r0, r1, _, a1, mi_o0 (by decide +kernel) (by decide +kernel)⟩
theorem mi_r_in0 {X : mi_X} {d : Nat} {h : mi_H} {a lo hi : Int32} (hx : a < lo ∨ hi < a) : mi_wp X d mi_M107 0 [(0, .int a), (1, .int lo), (2, .int hi)] [] h 0 0 (fun z => z = (.inl (some (.int (Int32.ofInt 0))), h, 0, 0)) := by
  by_cases ha : a < lo
  · refine mi_wp_p (pc' := 1) rfl rfl rfl ?_
    refine mi_wp_p (pc' := 2) rfl rfl rfl ?_
    refine mi_wp_p (pc' := 14) rfl rfl (mi_br2 (b := true) (t := 14) (decide_eq_true ha) rfl) ?_
    refine mi_wp_p (pc' := 15) rfl rfl rfl ?_
    exact mi_wp_r rfl rfl rfl rfl rfl
  · refine mi_wp_p (pc' := 1) rfl rfl rfl ?_
    refine mi_wp_p (pc' := 2) rfl rfl rfl ?_
    refine mi_wp_p (pc' := 5) rfl rfl (mi_br2 (b := false) (t := 14) (decide_eq_false ha) rfl) ?_
    refine mi_wp_p (pc' := 6) rfl rfl rfl ?_
    refine mi_wp_p (pc' := 7) rfl rfl rfl ?_
    refine mi_wp_p (pc' := 14) rfl rfl (mi_br2 (b := true) (t := 14) (decide_eq_true (hx.resolve_left ha)) rfl) ?_
    refine mi_wp_p (pc' := 15) rfl rfl rfl ?_
    exact mi_wp_r rfl rfl rfl rfl rfl
theorem mi_r_in1 {X : mi_X} {d : Nat} {h : mi_H} {a lo hi : Int32} (h1 : ¬ a < lo) (h2 : ¬ hi < a) : mi_wp X d mi_M107 0 [(0, .int a), (1, .int lo), (2, .int hi)] [] h 0 0 (fun z => z = (.inl (some (.int (Int32.ofInt 1))), h, 0, 0)) := by
  refine mi_wp_p (pc' := 1) rfl rfl rfl ?_
  refine mi_wp_p (pc' := 2) rfl rfl rfl ?_
  refine mi_wp_p (pc' := 5) rfl rfl (mi_br2 (b := false) (t := 14) (decide_eq_false h1) rfl) ?_
  refine mi_wp_p (pc' := 6) rfl rfl rfl ?_
  refine mi_wp_p (pc' := 7) rfl rfl rfl ?_
  refine mi_wp_p (pc' := 10) rfl rfl (mi_br2 (b := false) (t := 14) (decide_eq_false h2) rfl) ?_
  refine mi_wp_p (pc' := 11) rfl rfl rfl ?_
  refine mi_wp_p (pc' := 15) rfl rfl rfl ?_
  exact mi_wp_r rfl rfl rfl rfl rfl
theorem mi_r_no {X : mi_X} {d : Nat} {h : mi_H} {a w : Int32} (r0 : mi_fv h 55 11 0 = some (.int w)) : mi_wp X d mi_M117 0 [(0, .ref 55), (1, .int a)] [] h 0 0 (fun z => ∃ h', z = (.inl (some (.int (Int32.ofInt 0))), h', 0, 0) ∧ mi_fv h' 55 11 0 = some (.int a)) := by
  refine mi_wp_p (pc' := 1) rfl rfl rfl ?_
  refine mi_wp_p (pc' := 2) rfl rfl rfl ?_
  refine mi_wp_pfk rfl rfl rfl r0 mi_fit_int (Or.inl rfl) ?_
  intro h1 e1 e2 e3 e4 e5
  replace r0 := e1
  clear e1 e2 e3 e4 e5
  refine mi_wp_p (pc' := 6) rfl rfl rfl ?_
  exact mi_wp_r rfl rfl rfl rfl ⟨_, rfl, r0⟩
theorem mi_r_thrown {X : mi_X} {d : Nat} {h : mi_H} {w : Int32} (r0 : mi_fv h 55 11 0 = some (.int w)) : mi_wp X d mi_M126 0 [(0, .ref 55)] [] h 0 0 (fun z => z = (.inl (some (.int w)), h, 0, 0)) := by
  refine mi_wp_p (pc' := 1) rfl rfl rfl ?_
  refine mi_wp_gf rfl rfl rfl r0 ?_
  exact mi_wp_r rfl rfl rfl (mi_ret_i rfl) rfl
theorem mi_r_isDef {X : mi_X} {h : mi_H} {a : Int32} (r1 : mi_fv h 55 11 34 = some (.int 0)) : mi_wp X 19 mi_M104 0 [(0, .ref 55), (1, .int a)] [] h 0 0 (fun z => z = (.inl (some (.int (Int32.ofInt 0))), h, 0, 0)) := by
  have hd : 8 ≤ 19 := by decide
  refine mi_wp_p (pc' := 1) rfl rfl rfl ?_
  refine mi_wp_p (pc' := 2) rfl rfl rfl ?_
  refine mi_wp_p (pc' := 3) rfl rfl rfl ?_
  refine mi_wp_gf rfl rfl rfl r1 ?_
  refine mi_wp_p (pc' := 7) rfl rfl rfl ?_
  refine mi_wp_p (pc' := 8) rfl rfl rfl ?_
  refine mi_wp_c1 rfl rfl rfl rfl rfl rfl (mi_cal_s (np := 3) rfl rfl (Or.inl rfl) rfl (Nat.le_of_ble_eq_true rfl) (Nat.le_of_ble_eq_true rfl)) (Nat.le_of_ble_eq_true rfl) (mi_r_in0 (mi_ix (by decide))) ?_
  exact mi_wp_r rfl rfl rfl rfl rfl
theorem mi_r_write {X : mi_X} {h : mi_H} {a : Int32} (r0 : mi_fv h 55 11 0 = some (.int 0)) (r1 : mi_fv h 55 11 34 = some (.int 0)) : mi_wp X 20 mi_M130 0 [(0, .ref 55), (1, .int a)] [] h 0 0 (fun z => ∃ h', z = (.inl (some (.int (Int32.ofInt 0))), h', 0, 0) ∧ ∃ w : Int32, mi_fv h' 55 11 0 = some (.int w) ∧ w = 1) := by
  have hd : 8 ≤ 20 := by decide
  refine mi_wp_p (pc' := 1) rfl rfl rfl ?_
  refine mi_wp_p (pc' := 2) rfl rfl rfl ?_
  refine mi_wp_pfk rfl rfl rfl r0 mi_fit_int (Or.inl rfl) ?_
  intro h1 e1 e2 e3 e4 e5
  replace r0 := mi_eqi (y := 0) e1 (by decide +kernel)
  replace r1 := e2 _ _ _ _ r1 (by decide)
  clear e1 e2 e3 e4 e5
  refine mi_wp_p (pc' := 6) rfl rfl rfl ?_
  refine mi_wp_p (pc' := 7) rfl rfl rfl ?_
  refine mi_wp_c1 rfl rfl rfl rfl rfl rfl (mi_cal_v (np := 1) rfl rfl rfl rfl (Nat.le_of_ble_eq_true rfl) (Nat.le_of_ble_eq_true rfl) (mi_rc_of r1)) (Nat.le_of_ble_eq_true rfl) (mi_r_isDef r1) ?_
  refine mi_wp_p (pc' := 26) rfl rfl (mi_br1 (b := true) (t := 26) (by decide +kernel) rfl) ?_
  refine mi_wp_p (pc' := 27) rfl rfl rfl ?_
  refine mi_wp_p (pc' := 28) rfl rfl rfl ?_
  refine mi_wp_ce rfl rfl rfl rfl rfl rfl (mi_cal_v (np := 1) rfl rfl rfl rfl (Nat.le_of_ble_eq_true rfl) (Nat.le_of_ble_eq_true rfl) (mi_rc_of r0)) (Nat.le_of_ble_eq_true rfl) (mi_r_no r0) ?_
  intro h9 r0
  exact mi_wp_r rfl rfl rfl rfl ⟨_, rfl, _, r0, by decide +kernel⟩
theorem mi_r_writeConstructor {X : mi_X} {h : mi_H} {a : Int32} (r0 : mi_fv h 55 11 0 = some (.int 0)) (r1 : mi_fv h 55 11 30 = some (.int 2)) : mi_wp X 20 mi_M132 0 [(0, .ref 55), (1, .int a)] [] h 0 0 (fun z => ∃ h', z = (.inl (some (.int (Int32.ofInt 0))), h', 0, 0) ∧ ∃ w : Int32, mi_fv h' 55 11 0 = some (.int w) ∧ w = 1) := by
  have hd : 8 ≤ 20 := by decide
  refine mi_wp_p (pc' := 1) rfl rfl rfl ?_
  refine mi_wp_p (pc' := 2) rfl rfl rfl ?_
  refine mi_wp_pfk rfl rfl rfl r0 mi_fit_int (Or.inl rfl) ?_
  intro h1 e1 e2 e3 e4 e5
  replace r0 := mi_eqi (y := 0) e1 (by decide +kernel)
  replace r1 := e2 _ _ _ _ r1 (by decide)
  clear e1 e2 e3 e4 e5
  refine mi_wp_p (pc' := 6) rfl rfl rfl ?_
  refine mi_wp_p (pc' := 7) rfl rfl rfl ?_
  refine mi_wp_p (pc' := 8) rfl rfl rfl ?_
  refine mi_wp_gf rfl rfl rfl r1 ?_
  refine mi_wp_p (pc' := 12) rfl rfl rfl ?_
  refine mi_wp_p (pc' := 13) rfl rfl rfl ?_
  refine mi_wp_c1 rfl rfl rfl rfl rfl rfl (mi_cal_s (np := 3) rfl rfl (Or.inl rfl) rfl (Nat.le_of_ble_eq_true rfl) (Nat.le_of_ble_eq_true rfl)) (Nat.le_of_ble_eq_true rfl) (mi_r_in0 (mi_ix (by decide))) ?_
  refine mi_wp_p (pc' := 34) rfl rfl (mi_br1 (b := true) (t := 34) (by decide +kernel) rfl) ?_
  refine mi_wp_p (pc' := 35) rfl rfl rfl ?_
  refine mi_wp_p (pc' := 36) rfl rfl rfl ?_
  refine mi_wp_ce rfl rfl rfl rfl rfl rfl (mi_cal_v (np := 1) rfl rfl rfl rfl (Nat.le_of_ble_eq_true rfl) (Nat.le_of_ble_eq_true rfl) (mi_rc_of r0)) (Nat.le_of_ble_eq_true rfl) (mi_r_no r0) ?_
  intro h9 r0
  exact mi_wp_r rfl rfl rfl rfl ⟨_, rfl, _, r0, by decide +kernel⟩
theorem mi_r_writeAt {X : mi_X} {h : mi_H} {a : Int32} (r0 : mi_fv h 55 11 0 = some (.int 0)) (r1 : mi_fv h 55 11 52 = some (.int 0)) : mi_wp X 20 mi_M131 0 [(0, .ref 55), (1, .int a)] [] h 0 0 (fun z => ∃ h', z = (.inl (some (.int (Int32.ofInt 0))), h', 0, 0) ∧ ∃ w : Int32, mi_fv h' 55 11 0 = some (.int w) ∧ w = 1) := by
  have hd : 8 ≤ 20 := by decide
  refine mi_wp_p (pc' := 1) rfl rfl rfl ?_
  refine mi_wp_p (pc' := 2) rfl rfl rfl ?_
  refine mi_wp_pfk rfl rfl rfl r0 mi_fit_int (Or.inl rfl) ?_
  intro h1 e1 e2 e3 e4 e5
  replace r0 := mi_eqi (y := 0) e1 (by decide +kernel)
  replace r1 := e2 _ _ _ _ r1 (by decide)
  clear e1 e2 e3 e4 e5
  refine mi_wp_p (pc' := 6) rfl rfl rfl ?_
  refine mi_wp_p (pc' := 7) rfl rfl rfl ?_
  refine mi_wp_p (pc' := 8) rfl rfl rfl ?_
  refine mi_wp_p (pc' := 9) rfl rfl rfl ?_
  refine mi_wp_p (pc' := 10) rfl rfl rfl ?_
  refine mi_wp_p (pc' := 11) rfl rfl rfl ?_
  refine mi_wp_gf rfl rfl rfl r1 ?_
  refine mi_wp_p (pc' := 92) rfl rfl (mi_br2 (b := true) (t := 92) (by decide +kernel) rfl) ?_
  refine mi_wp_p (pc' := 93) rfl rfl rfl ?_
  refine mi_wp_p (pc' := 94) rfl rfl rfl ?_
  refine mi_wp_p (pc' := 97) rfl rfl (mi_br2 (b := false) (t := 105) (by decide +kernel) rfl) ?_
  refine mi_wp_p (pc' := 98) rfl rfl rfl ?_
  refine mi_wp_p (pc' := 99) rfl rfl rfl ?_
  refine mi_wp_ce rfl rfl rfl rfl rfl rfl (mi_cal_v (np := 1) rfl rfl rfl rfl (Nat.le_of_ble_eq_true rfl) (Nat.le_of_ble_eq_true rfl) (mi_rc_of r0)) (Nat.le_of_ble_eq_true rfl) (mi_r_no r0) ?_
  intro h9 r0
  refine mi_wp_p (pc' := 115) rfl rfl rfl ?_
  exact mi_wp_r rfl rfl rfl rfl ⟨_, rfl, _, r0, by decide +kernel⟩
theorem mi_r_byteAt {X : mi_X} {h : mi_H} {a : Int32} (r0 : mi_fv h 55 11 0 = some (.int 0)) (r1 : mi_fv h 55 11 9 = some (.int 0)) : mi_wp X 20 mi_M90 0 [(0, .ref 55), (1, .int a)] [] h 0 0 (fun z => ∃ h', z = (.inl (some (.int (Int32.ofInt 0))), h', 0, 0) ∧ ∃ w : Int32, mi_fv h' 55 11 0 = some (.int w) ∧ w = 1) := by
  have hd : 8 ≤ 20 := by decide
  refine mi_wp_p (pc' := 1) rfl rfl rfl ?_
  refine mi_wp_p (pc' := 2) rfl rfl rfl ?_
  refine mi_wp_pfk rfl rfl rfl r0 mi_fit_int (Or.inl rfl) ?_
  intro h1 e1 e2 e3 e4 e5
  replace r0 := mi_eqi (y := 0) e1 (by decide +kernel)
  replace r1 := e2 _ _ _ _ r1 (by decide)
  clear e1 e2 e3 e4 e5
  refine mi_wp_p (pc' := 6) rfl rfl rfl ?_
  refine mi_wp_p (pc' := 7) rfl rfl rfl ?_
  refine mi_wp_p (pc' := 8) rfl rfl rfl ?_
  refine mi_wp_gf rfl rfl rfl r1 ?_
  refine mi_wp_p (pc' := 12) rfl rfl rfl ?_
  refine mi_wp_p (pc' := 13) rfl rfl rfl ?_
  refine mi_wp_c1 rfl rfl rfl rfl rfl rfl (mi_cal_s (np := 3) rfl rfl (Or.inl rfl) rfl (Nat.le_of_ble_eq_true rfl) (Nat.le_of_ble_eq_true rfl)) (Nat.le_of_ble_eq_true rfl) (mi_r_in0 (mi_ix (by decide))) ?_
  refine mi_wp_p (pc' := 28) rfl rfl (mi_br1 (b := true) (t := 28) (by decide +kernel) rfl) ?_
  refine mi_wp_p (pc' := 29) rfl rfl rfl ?_
  refine mi_wp_p (pc' := 30) rfl rfl rfl ?_
  refine mi_wp_ce rfl rfl rfl rfl rfl rfl (mi_cal_v (np := 1) rfl rfl rfl rfl (Nat.le_of_ble_eq_true rfl) (Nat.le_of_ble_eq_true rfl) (mi_rc_of r0)) (Nat.le_of_ble_eq_true rfl) (mi_r_no r0) ?_
  intro h9 r0
  exact mi_wp_r rfl rfl rfl rfl ⟨_, rfl, _, r0, by decide +kernel⟩
theorem mi_r_measure {X : mi_X} {h : mi_H} {a b : Int32} (r0 : mi_fv h 55 11 0 = some (.int 0)) (r1 : mi_fv h 55 11 34 = some (.int 0)) : mi_wp X 20 mi_M114 0 [(0, .ref 55), (1, .int a), (2, .int b)] [] h 0 0 (fun z => ∃ h', z = (.inl (some (.int (Int32.ofInt 0))), h', 0, 0) ∧ ∃ w : Int32, mi_fv h' 55 11 0 = some (.int w) ∧ w = 1) := by
  have hd : 8 ≤ 20 := by decide
  refine mi_wp_p (pc' := 1) rfl rfl rfl ?_
  refine mi_wp_p (pc' := 2) rfl rfl rfl ?_
  refine mi_wp_pfk rfl rfl rfl r0 mi_fit_int (Or.inl rfl) ?_
  intro h1 e1 e2 e3 e4 e5
  replace r0 := mi_eqi (y := 0) e1 (by decide +kernel)
  replace r1 := e2 _ _ _ _ r1 (by decide)
  clear e1 e2 e3 e4 e5
  refine mi_wp_p (pc' := 6) rfl rfl rfl ?_
  refine mi_wp_p (pc' := 7) rfl rfl rfl ?_
  refine mi_wp_c1 rfl rfl rfl rfl rfl rfl (mi_cal_v (np := 1) rfl rfl rfl rfl (Nat.le_of_ble_eq_true rfl) (Nat.le_of_ble_eq_true rfl) (mi_rc_of r1)) (Nat.le_of_ble_eq_true rfl) (mi_r_isDef r1) ?_
  refine mi_wp_p (pc' := 31) rfl rfl (mi_br1 (b := true) (t := 31) (by decide +kernel) rfl) ?_
  refine mi_wp_p (pc' := 32) rfl rfl rfl ?_
  refine mi_wp_p (pc' := 33) rfl rfl rfl ?_
  refine mi_wp_ce rfl rfl rfl rfl rfl rfl (mi_cal_v (np := 1) rfl rfl rfl rfl (Nat.le_of_ble_eq_true rfl) (Nat.le_of_ble_eq_true rfl) (mi_rc_of r0)) (Nat.le_of_ble_eq_true rfl) (mi_r_no r0) ?_
  intro h9 r0
  exact mi_wp_r rfl rfl rfl rfl ⟨_, rfl, _, r0, by decide +kernel⟩
theorem mi_r_uses {X : mi_X} {h : mi_H} {a b : Int32} (r0 : mi_fv h 55 11 0 = some (.int 0)) (r1 : mi_fv h 55 11 34 = some (.int 0)) : mi_wp X 20 mi_M129 0 [(0, .ref 55), (1, .int a), (2, .int b)] [] h 0 0 (fun z => ∃ h', z = (.inl (some (.int (Int32.ofInt 0))), h', 0, 0) ∧ ∃ w : Int32, mi_fv h' 55 11 0 = some (.int w) ∧ w = 1) := by
  have hd : 8 ≤ 20 := by decide
  refine mi_wp_p (pc' := 1) rfl rfl rfl ?_
  refine mi_wp_p (pc' := 2) rfl rfl rfl ?_
  refine mi_wp_pfk rfl rfl rfl r0 mi_fit_int (Or.inl rfl) ?_
  intro h1 e1 e2 e3 e4 e5
  replace r0 := mi_eqi (y := 0) e1 (by decide +kernel)
  replace r1 := e2 _ _ _ _ r1 (by decide)
  clear e1 e2 e3 e4 e5
  refine mi_wp_p (pc' := 6) rfl rfl rfl ?_
  refine mi_wp_p (pc' := 7) rfl rfl rfl ?_
  refine mi_wp_c1 rfl rfl rfl rfl rfl rfl (mi_cal_v (np := 1) rfl rfl rfl rfl (Nat.le_of_ble_eq_true rfl) (Nat.le_of_ble_eq_true rfl) (mi_rc_of r1)) (Nat.le_of_ble_eq_true rfl) (mi_r_isDef r1) ?_
  refine mi_wp_p (pc' := 35) rfl rfl (mi_br1 (b := true) (t := 35) (by decide +kernel) rfl) ?_
  refine mi_wp_p (pc' := 36) rfl rfl rfl ?_
  refine mi_wp_p (pc' := 37) rfl rfl rfl ?_
  refine mi_wp_ce rfl rfl rfl rfl rfl rfl (mi_cal_v (np := 1) rfl rfl rfl rfl (Nat.le_of_ble_eq_true rfl) (Nat.le_of_ble_eq_true rfl) (mi_rc_of r0)) (Nat.le_of_ble_eq_true rfl) (mi_r_no r0) ?_
  intro h9 r0
  exact mi_wp_r rfl rfl rfl rfl ⟨_, rfl, _, r0, by decide +kernel⟩
theorem mi_r_covers {X : mi_X} {h : mi_H} {a b : Int32} (r0 : mi_fv h 55 11 0 = some (.int 0)) (r1 : mi_fv h 55 11 34 = some (.int 0)) : mi_wp X 20 mi_M95 0 [(0, .ref 55), (1, .int a), (2, .int b)] [] h 0 0 (fun z => ∃ h', z = (.inl (some (.int (Int32.ofInt 0))), h', 0, 0) ∧ ∃ w : Int32, mi_fv h' 55 11 0 = some (.int w) ∧ w = 1) := by
  have hd : 8 ≤ 20 := by decide
  refine mi_wp_p (pc' := 1) rfl rfl rfl ?_
  refine mi_wp_p (pc' := 2) rfl rfl rfl ?_
  refine mi_wp_p (pc' := 3) rfl rfl rfl ?_
  refine mi_wp_c1 rfl rfl rfl rfl rfl rfl (mi_cal_v (np := 1) rfl rfl rfl rfl (Nat.le_of_ble_eq_true rfl) (Nat.le_of_ble_eq_true rfl) (mi_rc_of r1)) (Nat.le_of_ble_eq_true rfl) (mi_r_isDef r1) ?_
  refine mi_wp_p (pc' := 21) rfl rfl (mi_br1 (b := true) (t := 21) (by decide +kernel) rfl) ?_
  refine mi_wp_p (pc' := 22) rfl rfl rfl ?_
  refine mi_wp_pfk rfl rfl rfl r0 mi_fit_int (Or.inl rfl) ?_
  intro h1 e1 e2 e3 e4 e5
  replace r0 := mi_eqi (y := 1) e1 (by decide +kernel)
  replace r1 := e2 _ _ _ _ r1 (by decide)
  clear e1 e2 e3 e4 e5
  refine mi_wp_p (pc' := 26) rfl rfl rfl ?_
  refine mi_wp_gf rfl rfl rfl r0 ?_
  refine mi_wp_p (pc' := 32) rfl rfl (mi_br1 (b := false) (t := 34) (by decide +kernel) rfl) ?_
  refine mi_wp_p (pc' := 33) rfl rfl rfl ?_
  exact mi_wp_r rfl rfl rfl rfl ⟨_, rfl, _, r0, by decide +kernel⟩
theorem mi_r_meet {X : mi_X} {h : mi_H} {a b : Int32} (r0 : mi_fv h 55 11 0 = some (.int 0)) (r1 : mi_fv h 55 11 34 = some (.int 0)) : mi_wp X 20 mi_M115 0 [(0, .ref 55), (1, .int a), (2, .int b)] [] h 0 0 (fun z => ∃ h', z = (.inl (some (.int (Int32.ofInt 0))), h', 0, 0) ∧ ∃ w : Int32, mi_fv h' 55 11 0 = some (.int w) ∧ w = 1) := by
  have hd : 8 ≤ 20 := by decide
  refine mi_wp_p (pc' := 1) rfl rfl rfl ?_
  refine mi_wp_p (pc' := 2) rfl rfl rfl ?_
  refine mi_wp_pfk rfl rfl rfl r0 mi_fit_int (Or.inl rfl) ?_
  intro h1 e1 e2 e3 e4 e5
  replace r0 := mi_eqi (y := 0) e1 (by decide +kernel)
  replace r1 := e2 _ _ _ _ r1 (by decide)
  clear e1 e2 e3 e4 e5
  refine mi_wp_p (pc' := 6) rfl rfl rfl ?_
  refine mi_wp_p (pc' := 7) rfl rfl rfl ?_
  refine mi_wp_c1 rfl rfl rfl rfl rfl rfl (mi_cal_v (np := 1) rfl rfl rfl rfl (Nat.le_of_ble_eq_true rfl) (Nat.le_of_ble_eq_true rfl) (mi_rc_of r1)) (Nat.le_of_ble_eq_true rfl) (mi_r_isDef r1) ?_
  refine mi_wp_p (pc' := 21) rfl rfl (mi_br1 (b := true) (t := 21) (by decide +kernel) rfl) ?_
  refine mi_wp_p (pc' := 22) rfl rfl rfl ?_
  refine mi_wp_p (pc' := 23) rfl rfl rfl ?_
  refine mi_wp_ce rfl rfl rfl rfl rfl rfl (mi_cal_v (np := 1) rfl rfl rfl rfl (Nat.le_of_ble_eq_true rfl) (Nat.le_of_ble_eq_true rfl) (mi_rc_of r0)) (Nat.le_of_ble_eq_true rfl) (mi_r_no r0) ?_
  intro h9 r0
  exact mi_wp_r rfl rfl rfl rfl ⟨_, rfl, _, r0, by decide +kernel⟩
theorem mi_r_trim {X : mi_X} {h : mi_H} {a : Int32} (r0 : mi_fv h 55 11 0 = some (.int 0)) (r1 : mi_fv h 55 11 2 = some (.int 0)) (hne : a ≠ 0) : mi_wp X 20 mi_M127 0 [(0, .ref 55), (1, .int a)] [] h 0 0 (fun z => ∃ h', z = (.inl (some (.int (Int32.ofInt 0))), h', 0, 0) ∧ ∃ w : Int32, mi_fv h' 55 11 0 = some (.int w) ∧ w = 1) := by
  have hd : 8 ≤ 20 := by decide
  refine mi_wp_p (pc' := 1) rfl rfl rfl ?_
  refine mi_wp_p (pc' := 2) rfl rfl rfl ?_
  refine mi_wp_pfk rfl rfl rfl r0 mi_fit_int (Or.inl rfl) ?_
  intro h1 e1 e2 e3 e4 e5
  replace r0 := mi_eqi (y := 0) e1 (by decide +kernel)
  replace r1 := e2 _ _ _ _ r1 (by decide)
  clear e1 e2 e3 e4 e5
  refine mi_wp_p (pc' := 6) rfl rfl rfl ?_
  refine mi_wp_p (pc' := 7) rfl rfl rfl ?_
  refine mi_wp_p (pc' := 8) rfl rfl rfl ?_
  refine mi_wp_gf rfl rfl rfl r1 ?_
  refine mi_wp_c1 rfl rfl rfl rfl rfl rfl (mi_cal_s (np := 3) rfl rfl (Or.inl rfl) rfl (Nat.le_of_ble_eq_true rfl) (Nat.le_of_ble_eq_true rfl)) (Nat.le_of_ble_eq_true rfl) (mi_r_in0 (mi_i0 hne)) ?_
  refine mi_wp_p (pc' := 17) rfl rfl (mi_br1 (b := false) (t := 23) (by decide +kernel) rfl) ?_
  refine mi_wp_p (pc' := 18) rfl rfl rfl ?_
  refine mi_wp_p (pc' := 19) rfl rfl rfl ?_
  refine mi_wp_ce rfl rfl rfl rfl rfl rfl (mi_cal_v (np := 1) rfl rfl rfl rfl (Nat.le_of_ble_eq_true rfl) (Nat.le_of_ble_eq_true rfl) (mi_rc_of r0)) (Nat.le_of_ble_eq_true rfl) (mi_r_no r0) ?_
  intro h9 r0
  exact mi_wp_r rfl rfl rfl rfl ⟨_, rfl, _, r0, by decide +kernel⟩
theorem mi_r_trim0 {X : mi_X} {h : mi_H} {f : Nat → Int64} (r0 : mi_fv h 55 11 0 = some (.int 0)) (r1 : mi_fv h 55 11 2 = some (.int 0)) (a1 : mi_al h 98 = some (1, f)) : mi_wp X 20 mi_M127 0 [(0, .ref 55), (1, .int 0)] [] h 0 0 (fun z => ∃ h', z = (.inl (some (.int 0)), h', 0, 0) ∧ mi_fv h' 55 11 0 = some (.int 0) ∧ mi_al h' 98 = some (1, f)) := by
  have hd : 8 ≤ 20 := by decide
  refine mi_wp_p (pc' := 1) rfl rfl rfl ?_
  refine mi_wp_p (pc' := 2) rfl rfl rfl ?_
  refine mi_wp_pfk rfl rfl rfl r0 mi_fit_int (Or.inl rfl) ?_
  intro h1 e1 e2 e3 e4 e5
  replace r0 := mi_eqi (y := 0) e1 (by decide +kernel)
  replace r1 := e2 _ _ _ _ r1 (by decide)
  replace a1 := (e4 _).trans a1
  clear e1 e2 e3 e4 e5
  refine mi_wp_p (pc' := 6) rfl rfl rfl ?_
  refine mi_wp_p (pc' := 7) rfl rfl rfl ?_
  refine mi_wp_p (pc' := 8) rfl rfl rfl ?_
  refine mi_wp_gf rfl rfl rfl r1 ?_
  refine mi_wp_c1 rfl rfl rfl rfl rfl rfl (mi_cal_s (np := 3) rfl rfl (Or.inl rfl) rfl (Nat.le_of_ble_eq_true rfl) (Nat.le_of_ble_eq_true rfl)) (Nat.le_of_ble_eq_true rfl) (mi_r_in1 (by decide) (by decide)) ?_
  refine mi_wp_p (pc' := 23) rfl rfl (mi_br1 (b := true) (t := 23) (by decide +kernel) rfl) ?_
  refine mi_wp_p (pc' := 24) rfl rfl rfl ?_
  refine mi_wp_p (pc' := 25) rfl rfl rfl ?_
  refine mi_wp_pfk rfl rfl rfl r1 mi_fit_int (Or.inl rfl) ?_
  intro h2 e1 e2 e3 e4 e5
  replace r0 := e2 _ _ _ _ r0 (by decide)
  replace r1 := mi_eqi (y := 0) e1 (by decide +kernel)
  replace a1 := (e4 _).trans a1
  clear e1 e2 e3 e4 e5
  refine mi_wp_p (pc' := 29) rfl rfl rfl ?_
  exact mi_wp_r rfl rfl rfl rfl ⟨_, rfl, r0, a1⟩
theorem mi_r_count {X : mi_X} {h : mi_H} {a : Int32} (r0 : mi_fv h 55 11 0 = some (.int 0)) (hx : a < Int32.ofInt 0 ∨ Int32.ofInt 4 < a) : mi_wp X 20 mi_M93 0 [(0, .ref 55), (1, .int a)] [] h 0 0 (fun z => ∃ h', z = (.inl (some (.int (Int32.ofInt 0))), h', 0, 0) ∧ ∃ w : Int32, mi_fv h' 55 11 0 = some (.int w) ∧ w = 1) := by
  have hd : 8 ≤ 20 := by decide
  refine mi_wp_p (pc' := 1) rfl rfl rfl ?_
  refine mi_wp_p (pc' := 2) rfl rfl rfl ?_
  refine mi_wp_pfk rfl rfl rfl r0 mi_fit_int (Or.inl rfl) ?_
  intro h1 e1 e2 e3 e4 e5
  replace r0 := mi_eqi (y := 0) e1 (by decide +kernel)
  clear e1 e2 e3 e4 e5
  refine mi_wp_p (pc' := 6) rfl rfl rfl ?_
  refine mi_wp_p (pc' := 7) rfl rfl rfl ?_
  refine mi_wp_p (pc' := 8) rfl rfl rfl ?_
  refine mi_wp_c1 rfl rfl rfl rfl rfl rfl (mi_cal_s (np := 3) rfl rfl (Or.inl rfl) rfl (Nat.le_of_ble_eq_true rfl) (Nat.le_of_ble_eq_true rfl)) (Nat.le_of_ble_eq_true rfl) (mi_r_in0 hx) ?_
  refine mi_wp_p (pc' := 22) rfl rfl (mi_br1 (b := true) (t := 22) (by decide +kernel) rfl) ?_
  refine mi_wp_p (pc' := 23) rfl rfl rfl ?_
  refine mi_wp_p (pc' := 24) rfl rfl rfl ?_
  refine mi_wp_ce rfl rfl rfl rfl rfl rfl (mi_cal_v (np := 1) rfl rfl rfl rfl (Nat.le_of_ble_eq_true rfl) (Nat.le_of_ble_eq_true rfl) (mi_rc_of r0)) (Nat.le_of_ble_eq_true rfl) (mi_r_no r0) ?_
  intro h9 r0
  exact mi_wp_r rfl rfl rfl rfl ⟨_, rfl, _, r0, by decide +kernel⟩
theorem mi_r_counted0 {X : mi_X} {d : Nat} {h : mi_H} (r1 : mi_fv h 55 11 27 = some (.int 1)) : mi_wp X d mi_M94 0 [(0, .ref 55), (1, .int 0)] [] h 0 0 (fun z => z = (.inl (some (.int 0)), h, 0, 0)) := by
  refine mi_wp_p (pc' := 1) rfl rfl rfl ?_
  refine mi_wp_p (pc' := 4) rfl rfl (mi_br1 (b := false) (t := 13) (by decide +kernel) rfl) ?_
  refine mi_wp_p (pc' := 5) rfl rfl rfl ?_
  refine mi_wp_gf rfl rfl rfl r1 ?_
  refine mi_wp_p (pc' := 9) rfl rfl rfl ?_
  refine mi_wp_p (pc' := 10) rfl rfl rfl ?_
  refine mi_wp_p (pc' := 55) rfl rfl rfl ?_
  exact mi_wp_r rfl rfl rfl rfl (mi_zi (by decide +kernel))
theorem mi_r_count0 {X : mi_X} {h : mi_H} {f : Nat → Int64} (r0 : mi_fv h 55 11 0 = some (.int 0)) (r1 : mi_fv h 55 11 27 = some (.int 1)) (a1 : mi_al h 98 = some (1, f)) : mi_wp X 20 mi_M93 0 [(0, .ref 55), (1, .int 0)] [] h 0 0 (fun z => ∃ h', z = (.inl (some (.int 0)), h', 0, 0) ∧ mi_fv h' 55 11 0 = some (.int 0) ∧ mi_al h' 98 = some (1, f)) := by
  have hd : 8 ≤ 20 := by decide
  refine mi_wp_p (pc' := 1) rfl rfl rfl ?_
  refine mi_wp_p (pc' := 2) rfl rfl rfl ?_
  refine mi_wp_pfk rfl rfl rfl r0 mi_fit_int (Or.inl rfl) ?_
  intro h1 e1 e2 e3 e4 e5
  replace r0 := mi_eqi (y := 0) e1 (by decide +kernel)
  replace r1 := e2 _ _ _ _ r1 (by decide)
  replace a1 := (e4 _).trans a1
  clear e1 e2 e3 e4 e5
  refine mi_wp_p (pc' := 6) rfl rfl rfl ?_
  refine mi_wp_p (pc' := 7) rfl rfl rfl ?_
  refine mi_wp_p (pc' := 8) rfl rfl rfl ?_
  refine mi_wp_c1 rfl rfl rfl rfl rfl rfl (mi_cal_s (np := 3) rfl rfl (Or.inl rfl) rfl (Nat.le_of_ble_eq_true rfl) (Nat.le_of_ble_eq_true rfl)) (Nat.le_of_ble_eq_true rfl) (mi_r_in1 (by decide) (by decide)) ?_
  refine mi_wp_p (pc' := 14) rfl rfl (mi_br1 (b := false) (t := 22) (by decide +kernel) rfl) ?_
  refine mi_wp_p (pc' := 15) rfl rfl rfl ?_
  refine mi_wp_p (pc' := 16) rfl rfl rfl ?_
  refine mi_wp_c1 rfl rfl rfl rfl rfl rfl (mi_cal_v (np := 1) rfl rfl rfl rfl (Nat.le_of_ble_eq_true rfl) (Nat.le_of_ble_eq_true rfl) (mi_rc_of r0)) (Nat.le_of_ble_eq_true rfl) (mi_r_counted0 r1) ?_
  refine mi_wp_p (pc' := 27) rfl rfl rfl ?_
  exact mi_wp_r rfl rfl rfl rfl ⟨_, rfl, r0, a1⟩
theorem mi_r_counted1 {X : mi_X} {d : Nat} {h : mi_H} (r1 : mi_fv h 55 11 30 = some (.int 2)) : mi_wp X d mi_M94 0 [(0, .ref 55), (1, .int 1)] [] h 0 0 (fun z => z = (.inl (some (.int 0)), h, 0, 0)) := by
  refine mi_wp_p (pc' := 1) rfl rfl rfl ?_
  refine mi_wp_p (pc' := 13) rfl rfl (mi_br1 (b := true) (t := 13) (by decide +kernel) rfl) ?_
  refine mi_wp_p (pc' := 14) rfl rfl rfl ?_
  refine mi_wp_p (pc' := 15) rfl rfl rfl ?_
  refine mi_wp_p (pc' := 18) rfl rfl (mi_br2 (b := false) (t := 27) (by decide +kernel) rfl) ?_
  refine mi_wp_p (pc' := 19) rfl rfl rfl ?_
  refine mi_wp_gf rfl rfl rfl r1 ?_
  refine mi_wp_p (pc' := 23) rfl rfl rfl ?_
  refine mi_wp_p (pc' := 24) rfl rfl rfl ?_
  refine mi_wp_p (pc' := 55) rfl rfl rfl ?_
  exact mi_wp_r rfl rfl rfl rfl (mi_zi (by decide +kernel))
theorem mi_r_count1 {X : mi_X} {h : mi_H} {f : Nat → Int64} (r0 : mi_fv h 55 11 0 = some (.int 0)) (r1 : mi_fv h 55 11 30 = some (.int 2)) (a1 : mi_al h 98 = some (1, f)) : mi_wp X 20 mi_M93 0 [(0, .ref 55), (1, .int 1)] [] h 0 0 (fun z => ∃ h', z = (.inl (some (.int 0)), h', 0, 0) ∧ mi_fv h' 55 11 0 = some (.int 0) ∧ mi_al h' 98 = some (1, f)) := by
  have hd : 8 ≤ 20 := by decide
  refine mi_wp_p (pc' := 1) rfl rfl rfl ?_
  refine mi_wp_p (pc' := 2) rfl rfl rfl ?_
  refine mi_wp_pfk rfl rfl rfl r0 mi_fit_int (Or.inl rfl) ?_
  intro h1 e1 e2 e3 e4 e5
  replace r0 := mi_eqi (y := 0) e1 (by decide +kernel)
  replace r1 := e2 _ _ _ _ r1 (by decide)
  replace a1 := (e4 _).trans a1
  clear e1 e2 e3 e4 e5
  refine mi_wp_p (pc' := 6) rfl rfl rfl ?_
  refine mi_wp_p (pc' := 7) rfl rfl rfl ?_
  refine mi_wp_p (pc' := 8) rfl rfl rfl ?_
  refine mi_wp_c1 rfl rfl rfl rfl rfl rfl (mi_cal_s (np := 3) rfl rfl (Or.inl rfl) rfl (Nat.le_of_ble_eq_true rfl) (Nat.le_of_ble_eq_true rfl)) (Nat.le_of_ble_eq_true rfl) (mi_r_in1 (by decide) (by decide)) ?_
  refine mi_wp_p (pc' := 14) rfl rfl (mi_br1 (b := false) (t := 22) (by decide +kernel) rfl) ?_
  refine mi_wp_p (pc' := 15) rfl rfl rfl ?_
  refine mi_wp_p (pc' := 16) rfl rfl rfl ?_
  refine mi_wp_c1 rfl rfl rfl rfl rfl rfl (mi_cal_v (np := 1) rfl rfl rfl rfl (Nat.le_of_ble_eq_true rfl) (Nat.le_of_ble_eq_true rfl) (mi_rc_of r0)) (Nat.le_of_ble_eq_true rfl) (mi_r_counted1 r1) ?_
  refine mi_wp_p (pc' := 27) rfl rfl rfl ?_
  exact mi_wp_r rfl rfl rfl rfl ⟨_, rfl, r0, a1⟩
theorem mi_r_counted2 {X : mi_X} {d : Nat} {h : mi_H} (r1 : mi_fv h 55 11 34 = some (.int 0)) : mi_wp X d mi_M94 0 [(0, .ref 55), (1, .int 2)] [] h 0 0 (fun z => z = (.inl (some (.int 0)), h, 0, 0)) := by
  refine mi_wp_p (pc' := 1) rfl rfl rfl ?_
  refine mi_wp_p (pc' := 13) rfl rfl (mi_br1 (b := true) (t := 13) (by decide +kernel) rfl) ?_
  refine mi_wp_p (pc' := 14) rfl rfl rfl ?_
  refine mi_wp_p (pc' := 15) rfl rfl rfl ?_
  refine mi_wp_p (pc' := 27) rfl rfl (mi_br2 (b := true) (t := 27) (by decide +kernel) rfl) ?_
  refine mi_wp_p (pc' := 28) rfl rfl rfl ?_
  refine mi_wp_p (pc' := 29) rfl rfl rfl ?_
  refine mi_wp_p (pc' := 32) rfl rfl (mi_br2 (b := false) (t := 39) (by decide +kernel) rfl) ?_
  refine mi_wp_p (pc' := 33) rfl rfl rfl ?_
  refine mi_wp_gf rfl rfl rfl r1 ?_
  refine mi_wp_p (pc' := 55) rfl rfl rfl ?_
  exact mi_wp_r rfl rfl rfl rfl rfl
theorem mi_r_count2 {X : mi_X} {h : mi_H} {f : Nat → Int64} (r0 : mi_fv h 55 11 0 = some (.int 0)) (r1 : mi_fv h 55 11 34 = some (.int 0)) (a1 : mi_al h 98 = some (1, f)) : mi_wp X 20 mi_M93 0 [(0, .ref 55), (1, .int 2)] [] h 0 0 (fun z => ∃ h', z = (.inl (some (.int 0)), h', 0, 0) ∧ mi_fv h' 55 11 0 = some (.int 0) ∧ mi_al h' 98 = some (1, f)) := by
  have hd : 8 ≤ 20 := by decide
  refine mi_wp_p (pc' := 1) rfl rfl rfl ?_
  refine mi_wp_p (pc' := 2) rfl rfl rfl ?_
  refine mi_wp_pfk rfl rfl rfl r0 mi_fit_int (Or.inl rfl) ?_
  intro h1 e1 e2 e3 e4 e5
  replace r0 := mi_eqi (y := 0) e1 (by decide +kernel)
  replace r1 := e2 _ _ _ _ r1 (by decide)
  replace a1 := (e4 _).trans a1
  clear e1 e2 e3 e4 e5
  refine mi_wp_p (pc' := 6) rfl rfl rfl ?_
  refine mi_wp_p (pc' := 7) rfl rfl rfl ?_
  refine mi_wp_p (pc' := 8) rfl rfl rfl ?_
  refine mi_wp_c1 rfl rfl rfl rfl rfl rfl (mi_cal_s (np := 3) rfl rfl (Or.inl rfl) rfl (Nat.le_of_ble_eq_true rfl) (Nat.le_of_ble_eq_true rfl)) (Nat.le_of_ble_eq_true rfl) (mi_r_in1 (by decide) (by decide)) ?_
  refine mi_wp_p (pc' := 14) rfl rfl (mi_br1 (b := false) (t := 22) (by decide +kernel) rfl) ?_
  refine mi_wp_p (pc' := 15) rfl rfl rfl ?_
  refine mi_wp_p (pc' := 16) rfl rfl rfl ?_
  refine mi_wp_c1 rfl rfl rfl rfl rfl rfl (mi_cal_v (np := 1) rfl rfl rfl rfl (Nat.le_of_ble_eq_true rfl) (Nat.le_of_ble_eq_true rfl) (mi_rc_of r0)) (Nat.le_of_ble_eq_true rfl) (mi_r_counted2 r1) ?_
  refine mi_wp_p (pc' := 27) rfl rfl rfl ?_
  exact mi_wp_r rfl rfl rfl rfl ⟨_, rfl, r0, a1⟩
theorem mi_r_counted3 {X : mi_X} {d : Nat} {h : mi_H} (r1 : mi_fv h 55 11 2 = some (.int 0)) : mi_wp X d mi_M94 0 [(0, .ref 55), (1, .int 3)] [] h 0 0 (fun z => z = (.inl (some (.int 0)), h, 0, 0)) := by
  refine mi_wp_p (pc' := 1) rfl rfl rfl ?_
  refine mi_wp_p (pc' := 13) rfl rfl (mi_br1 (b := true) (t := 13) (by decide +kernel) rfl) ?_
  refine mi_wp_p (pc' := 14) rfl rfl rfl ?_
  refine mi_wp_p (pc' := 15) rfl rfl rfl ?_
  refine mi_wp_p (pc' := 27) rfl rfl (mi_br2 (b := true) (t := 27) (by decide +kernel) rfl) ?_
  refine mi_wp_p (pc' := 28) rfl rfl rfl ?_
  refine mi_wp_p (pc' := 29) rfl rfl rfl ?_
  refine mi_wp_p (pc' := 39) rfl rfl (mi_br2 (b := true) (t := 39) (by decide +kernel) rfl) ?_
  refine mi_wp_p (pc' := 40) rfl rfl rfl ?_
  refine mi_wp_p (pc' := 41) rfl rfl rfl ?_
  refine mi_wp_p (pc' := 44) rfl rfl (mi_br2 (b := false) (t := 51) (by decide +kernel) rfl) ?_
  refine mi_wp_p (pc' := 45) rfl rfl rfl ?_
  refine mi_wp_gf rfl rfl rfl r1 ?_
  refine mi_wp_p (pc' := 55) rfl rfl rfl ?_
  exact mi_wp_r rfl rfl rfl rfl rfl
theorem mi_r_count3 {X : mi_X} {h : mi_H} {f : Nat → Int64} (r0 : mi_fv h 55 11 0 = some (.int 0)) (r1 : mi_fv h 55 11 2 = some (.int 0)) (a1 : mi_al h 98 = some (1, f)) : mi_wp X 20 mi_M93 0 [(0, .ref 55), (1, .int 3)] [] h 0 0 (fun z => ∃ h', z = (.inl (some (.int 0)), h', 0, 0) ∧ mi_fv h' 55 11 0 = some (.int 0) ∧ mi_al h' 98 = some (1, f)) := by
  have hd : 8 ≤ 20 := by decide
  refine mi_wp_p (pc' := 1) rfl rfl rfl ?_
  refine mi_wp_p (pc' := 2) rfl rfl rfl ?_
  refine mi_wp_pfk rfl rfl rfl r0 mi_fit_int (Or.inl rfl) ?_
  intro h1 e1 e2 e3 e4 e5
  replace r0 := mi_eqi (y := 0) e1 (by decide +kernel)
  replace r1 := e2 _ _ _ _ r1 (by decide)
  replace a1 := (e4 _).trans a1
  clear e1 e2 e3 e4 e5
  refine mi_wp_p (pc' := 6) rfl rfl rfl ?_
  refine mi_wp_p (pc' := 7) rfl rfl rfl ?_
  refine mi_wp_p (pc' := 8) rfl rfl rfl ?_
  refine mi_wp_c1 rfl rfl rfl rfl rfl rfl (mi_cal_s (np := 3) rfl rfl (Or.inl rfl) rfl (Nat.le_of_ble_eq_true rfl) (Nat.le_of_ble_eq_true rfl)) (Nat.le_of_ble_eq_true rfl) (mi_r_in1 (by decide) (by decide)) ?_
  refine mi_wp_p (pc' := 14) rfl rfl (mi_br1 (b := false) (t := 22) (by decide +kernel) rfl) ?_
  refine mi_wp_p (pc' := 15) rfl rfl rfl ?_
  refine mi_wp_p (pc' := 16) rfl rfl rfl ?_
  refine mi_wp_c1 rfl rfl rfl rfl rfl rfl (mi_cal_v (np := 1) rfl rfl rfl rfl (Nat.le_of_ble_eq_true rfl) (Nat.le_of_ble_eq_true rfl) (mi_rc_of r0)) (Nat.le_of_ble_eq_true rfl) (mi_r_counted3 r1) ?_
  refine mi_wp_p (pc' := 27) rfl rfl rfl ?_
  exact mi_wp_r rfl rfl rfl rfl ⟨_, rfl, r0, a1⟩
theorem mi_r_counted4 {X : mi_X} {d : Nat} {h : mi_H} (r1 : mi_fv h 55 11 9 = some (.int 0)) : mi_wp X d mi_M94 0 [(0, .ref 55), (1, .int 4)] [] h 0 0 (fun z => z = (.inl (some (.int 0)), h, 0, 0)) := by
  refine mi_wp_p (pc' := 1) rfl rfl rfl ?_
  refine mi_wp_p (pc' := 13) rfl rfl (mi_br1 (b := true) (t := 13) (by decide +kernel) rfl) ?_
  refine mi_wp_p (pc' := 14) rfl rfl rfl ?_
  refine mi_wp_p (pc' := 15) rfl rfl rfl ?_
  refine mi_wp_p (pc' := 27) rfl rfl (mi_br2 (b := true) (t := 27) (by decide +kernel) rfl) ?_
  refine mi_wp_p (pc' := 28) rfl rfl rfl ?_
  refine mi_wp_p (pc' := 29) rfl rfl rfl ?_
  refine mi_wp_p (pc' := 39) rfl rfl (mi_br2 (b := true) (t := 39) (by decide +kernel) rfl) ?_
  refine mi_wp_p (pc' := 40) rfl rfl rfl ?_
  refine mi_wp_p (pc' := 41) rfl rfl rfl ?_
  refine mi_wp_p (pc' := 51) rfl rfl (mi_br2 (b := true) (t := 51) (by decide +kernel) rfl) ?_
  refine mi_wp_p (pc' := 52) rfl rfl rfl ?_
  refine mi_wp_gf rfl rfl rfl r1 ?_
  exact mi_wp_r rfl rfl rfl rfl rfl
theorem mi_r_count4 {X : mi_X} {h : mi_H} {f : Nat → Int64} (r0 : mi_fv h 55 11 0 = some (.int 0)) (r1 : mi_fv h 55 11 9 = some (.int 0)) (a1 : mi_al h 98 = some (1, f)) : mi_wp X 20 mi_M93 0 [(0, .ref 55), (1, .int 4)] [] h 0 0 (fun z => ∃ h', z = (.inl (some (.int 0)), h', 0, 0) ∧ mi_fv h' 55 11 0 = some (.int 0) ∧ mi_al h' 98 = some (1, f)) := by
  have hd : 8 ≤ 20 := by decide
  refine mi_wp_p (pc' := 1) rfl rfl rfl ?_
  refine mi_wp_p (pc' := 2) rfl rfl rfl ?_
  refine mi_wp_pfk rfl rfl rfl r0 mi_fit_int (Or.inl rfl) ?_
  intro h1 e1 e2 e3 e4 e5
  replace r0 := mi_eqi (y := 0) e1 (by decide +kernel)
  replace r1 := e2 _ _ _ _ r1 (by decide)
  replace a1 := (e4 _).trans a1
  clear e1 e2 e3 e4 e5
  refine mi_wp_p (pc' := 6) rfl rfl rfl ?_
  refine mi_wp_p (pc' := 7) rfl rfl rfl ?_
  refine mi_wp_p (pc' := 8) rfl rfl rfl ?_
  refine mi_wp_c1 rfl rfl rfl rfl rfl rfl (mi_cal_s (np := 3) rfl rfl (Or.inl rfl) rfl (Nat.le_of_ble_eq_true rfl) (Nat.le_of_ble_eq_true rfl)) (Nat.le_of_ble_eq_true rfl) (mi_r_in1 (by decide) (by decide)) ?_
  refine mi_wp_p (pc' := 14) rfl rfl (mi_br1 (b := false) (t := 22) (by decide +kernel) rfl) ?_
  refine mi_wp_p (pc' := 15) rfl rfl rfl ?_
  refine mi_wp_p (pc' := 16) rfl rfl rfl ?_
  refine mi_wp_c1 rfl rfl rfl rfl rfl rfl (mi_cal_v (np := 1) rfl rfl rfl rfl (Nat.le_of_ble_eq_true rfl) (Nat.le_of_ble_eq_true rfl) (mi_rc_of r0)) (Nat.le_of_ble_eq_true rfl) (mi_r_counted4 r1) ?_
  refine mi_wp_p (pc' := 27) rfl rfl rfl ?_
  exact mi_wp_r rfl rfl rfl rfl ⟨_, rfl, r0, a1⟩
