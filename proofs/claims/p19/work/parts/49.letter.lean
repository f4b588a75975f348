/-! ===== floorMod, letters, marks of forms (printed by wip/gen/p_letter.py) ===== -/
theorem mi_s_ldc2 {X : mi_X} {d : Nat} {M : mi_M} {pc idx c s : Nat} {l : mi_L} {st : List Value} {h : mi_H} {Q : mi_Z → Prop} {y : Int64} (ht : mi_lk (mi_th M) pc = none) (hi : mi_lk (mi_cd M) pc = some (.ldc2_w idx, 3)) (hp : mi_lk (mi_jl (mi_ow M)) idx = some y) (kk : mi_wp X d M (pc + 3) l (.long y :: st) h c s Q) : mi_wp X d M pc l st h c s Q := by
  refine mi_wp_m ht hi rfl (by unfold mi_ret; rfl) rfl ?_ kk
  show mi_ldc2 (mi_ow M) idx (pc + 3) st h c s = _
  unfold mi_ldc2
  simp only [hp]
theorem ty_of_run {X : mi_X} {d n : Nat} {M : mi_M} {l : mi_L} {σ : mi_Sg} {v : Option Value} (hr : ∀ h, mi_run X n d M 0 l [] h 0 0 = some (.inl v, h, 0, 0)) {P : Option Value → mi_Sg → Prop} (hP : P v σ) : ty_C X d M l σ P := fun h S => ⟨n, _, hr h, v, h, σ, rfl, S, mi_Fm_rf h, hP⟩
theorem fm_jj0 {X : mi_X} {d : Nat} {σ : mi_Sg} : ty_Cj X d mi_M179 [(0, .long 0), (2, .long 26)] σ (fun x σ' => x = 0 ∧ σ' = σ) := ty_of_run (n := 30) (fun h => rfl) ⟨_, rfl, rfl, rfl⟩
theorem fm_ii0 {X : mi_X} {d : Nat} {σ : mi_Sg} : ty_Ci X d mi_M178 [(0, .int (Int32.ofInt 0)), (1, .int (Int32.ofInt 26))] σ (fun x σ' => x = 0 ∧ σ' = σ) := ty_of_run (n := 30) (fun h => rfl) ⟨_, rfl, rfl, rfl⟩
theorem fm_jj1 {X : mi_X} {d : Nat} {σ : mi_Sg} : ty_Cj X d mi_M179 [(0, .long 1), (2, .long 26)] σ (fun x σ' => x = 1 ∧ σ' = σ) := ty_of_run (n := 30) (fun h => rfl) ⟨_, rfl, rfl, rfl⟩
theorem fm_ii1 {X : mi_X} {d : Nat} {σ : mi_Sg} : ty_Ci X d mi_M178 [(0, .int (Int32.ofInt 1)), (1, .int (Int32.ofInt 26))] σ (fun x σ' => x = 1 ∧ σ' = σ) := ty_of_run (n := 30) (fun h => rfl) ⟨_, rfl, rfl, rfl⟩
theorem fm_jj2 {X : mi_X} {d : Nat} {σ : mi_Sg} : ty_Cj X d mi_M179 [(0, .long 2), (2, .long 26)] σ (fun x σ' => x = 2 ∧ σ' = σ) := ty_of_run (n := 30) (fun h => rfl) ⟨_, rfl, rfl, rfl⟩
theorem fm_ii2 {X : mi_X} {d : Nat} {σ : mi_Sg} : ty_Ci X d mi_M178 [(0, .int (Int32.ofInt 2)), (1, .int (Int32.ofInt 26))] σ (fun x σ' => x = 2 ∧ σ' = σ) := ty_of_run (n := 30) (fun h => rfl) ⟨_, rfl, rfl, rfl⟩
theorem fm_jj3 {X : mi_X} {d : Nat} {σ : mi_Sg} : ty_Cj X d mi_M179 [(0, .long 3), (2, .long 26)] σ (fun x σ' => x = 3 ∧ σ' = σ) := ty_of_run (n := 30) (fun h => rfl) ⟨_, rfl, rfl, rfl⟩
theorem fm_ii3 {X : mi_X} {d : Nat} {σ : mi_Sg} : ty_Ci X d mi_M178 [(0, .int (Int32.ofInt 3)), (1, .int (Int32.ofInt 26))] σ (fun x σ' => x = 3 ∧ σ' = σ) := ty_of_run (n := 30) (fun h => rfl) ⟨_, rfl, rfl, rfl⟩
theorem fm_jj4 {X : mi_X} {d : Nat} {σ : mi_Sg} : ty_Cj X d mi_M179 [(0, .long 4), (2, .long 26)] σ (fun x σ' => x = 4 ∧ σ' = σ) := ty_of_run (n := 30) (fun h => rfl) ⟨_, rfl, rfl, rfl⟩
theorem fm_ii4 {X : mi_X} {d : Nat} {σ : mi_Sg} : ty_Ci X d mi_M178 [(0, .int (Int32.ofInt 4)), (1, .int (Int32.ofInt 26))] σ (fun x σ' => x = 4 ∧ σ' = σ) := ty_of_run (n := 30) (fun h => rfl) ⟨_, rfl, rfl, rfl⟩
theorem fm_jj5 {X : mi_X} {d : Nat} {σ : mi_Sg} : ty_Cj X d mi_M179 [(0, .long 5), (2, .long 26)] σ (fun x σ' => x = 5 ∧ σ' = σ) := ty_of_run (n := 30) (fun h => rfl) ⟨_, rfl, rfl, rfl⟩
theorem fm_ii5 {X : mi_X} {d : Nat} {σ : mi_Sg} : ty_Ci X d mi_M178 [(0, .int (Int32.ofInt 5)), (1, .int (Int32.ofInt 26))] σ (fun x σ' => x = 5 ∧ σ' = σ) := ty_of_run (n := 30) (fun h => rfl) ⟨_, rfl, rfl, rfl⟩
theorem fo_letter0 {X : mi_X} {σ : mi_Sg} {d : Nat} {tk : Int} (t0 : 0 ≤ tk) (t1 : tk < mi_sF σ 3 7) (t2 : mi_sF σ 3 7 ≤ 301) (hk : mi_sE σ 8 tk = 97) : ty_Ci X (d + 1) mi_M35 [(0, .ref 48), (1, .int (Int32.ofInt tk))] σ (fun x σ' => x = 0 ∧ σ' = σ) := by
  intro h S
  have fr := mi_Fm_rf h
  refine mi_wp_p (pc' := 1) (st' := [.ref 48]) rfl rfl rfl ?_
  refine ty_s_gr S rfl rfl rfl (List.mem_of_getElem? (i := 57) rfl) ?_
  refine mi_wp_p (pc' := 5) (st' := [.int (Int32.ofInt tk), .ref 3]) rfl rfl rfl ?_
  refine ty_s_cj rfl rfl rfl rfl rfl rfl (mi_cal_v2 (np := 1) (args := [.ref 3, .int (Int32.ofInt tk)]) (rest := []) rfl rfl rfl rfl rfl (Nat.le_of_ble_eq_true rfl) rfl rfl (Nat.le_of_ble_eq_true rfl) (ty_rcS S (List.mem_of_getElem? (i := 3) rfl))) (Nat.le_of_ble_eq_true rfl) S (to_keyOf t0 t1 t2) ?_
  intro x hh σu S f P
  obtain ⟨e1, e2⟩ := P
  rw [e2] at S
  rw [e1, hk]
  clear e1 e2
  replace fr := mi_Fm_tr fr f
  refine mi_s_ldc2 (y := 97) rfl rfl rfl ?_
  refine mi_wp_p (pc' := 12) (st' := [.long 0]) rfl rfl rfl ?_
  refine mi_s_ldc2 (y := 26) rfl rfl rfl ?_
  refine ty_s_cj rfl rfl rfl rfl rfl rfl (mi_cal_s2 (np := 2) (args := [.long 0, .long 26]) (rest := []) rfl rfl rfl (Or.inl rfl) rfl (Nat.le_of_ble_eq_true rfl) rfl rfl (Nat.le_of_ble_eq_true rfl)) (Nat.le_of_ble_eq_true rfl) S fm_jj0 ?_
  intro x hh σu S f P
  obtain ⟨e1, e2⟩ := P
  rw [e2] at S
  rw [e1]
  clear e1 e2
  replace fr := mi_Fm_tr fr f
  refine mi_wp_p (pc' := 19) (st' := [.int (Int32.ofInt 0)]) rfl rfl rfl ?_
  exact ty_s_ret S fr rfl rfl rfl (mi_ret_i rfl) ⟨_, rfl, ⟨rfl, rfl⟩⟩
theorem fo_letter1 {X : mi_X} {σ : mi_Sg} {d : Nat} {tk : Int} (t0 : 0 ≤ tk) (t1 : tk < mi_sF σ 3 7) (t2 : mi_sF σ 3 7 ≤ 301) (hk : mi_sE σ 8 tk = 98) : ty_Ci X (d + 1) mi_M35 [(0, .ref 48), (1, .int (Int32.ofInt tk))] σ (fun x σ' => x = 1 ∧ σ' = σ) := by
  intro h S
  have fr := mi_Fm_rf h
  refine mi_wp_p (pc' := 1) (st' := [.ref 48]) rfl rfl rfl ?_
  refine ty_s_gr S rfl rfl rfl (List.mem_of_getElem? (i := 57) rfl) ?_
  refine mi_wp_p (pc' := 5) (st' := [.int (Int32.ofInt tk), .ref 3]) rfl rfl rfl ?_
  refine ty_s_cj rfl rfl rfl rfl rfl rfl (mi_cal_v2 (np := 1) (args := [.ref 3, .int (Int32.ofInt tk)]) (rest := []) rfl rfl rfl rfl rfl (Nat.le_of_ble_eq_true rfl) rfl rfl (Nat.le_of_ble_eq_true rfl) (ty_rcS S (List.mem_of_getElem? (i := 3) rfl))) (Nat.le_of_ble_eq_true rfl) S (to_keyOf t0 t1 t2) ?_
  intro x hh σu S f P
  obtain ⟨e1, e2⟩ := P
  rw [e2] at S
  rw [e1, hk]
  clear e1 e2
  replace fr := mi_Fm_tr fr f
  refine mi_s_ldc2 (y := 97) rfl rfl rfl ?_
  refine mi_wp_p (pc' := 12) (st' := [.long 1]) rfl rfl rfl ?_
  refine mi_s_ldc2 (y := 26) rfl rfl rfl ?_
  refine ty_s_cj rfl rfl rfl rfl rfl rfl (mi_cal_s2 (np := 2) (args := [.long 1, .long 26]) (rest := []) rfl rfl rfl (Or.inl rfl) rfl (Nat.le_of_ble_eq_true rfl) rfl rfl (Nat.le_of_ble_eq_true rfl)) (Nat.le_of_ble_eq_true rfl) S fm_jj1 ?_
  intro x hh σu S f P
  obtain ⟨e1, e2⟩ := P
  rw [e2] at S
  rw [e1]
  clear e1 e2
  replace fr := mi_Fm_tr fr f
  refine mi_wp_p (pc' := 19) (st' := [.int (Int32.ofInt 1)]) rfl rfl rfl ?_
  exact ty_s_ret S fr rfl rfl rfl (mi_ret_i rfl) ⟨_, rfl, ⟨rfl, rfl⟩⟩
theorem fo_letter2 {X : mi_X} {σ : mi_Sg} {d : Nat} {tk : Int} (t0 : 0 ≤ tk) (t1 : tk < mi_sF σ 3 7) (t2 : mi_sF σ 3 7 ≤ 301) (hk : mi_sE σ 8 tk = 99) : ty_Ci X (d + 1) mi_M35 [(0, .ref 48), (1, .int (Int32.ofInt tk))] σ (fun x σ' => x = 2 ∧ σ' = σ) := by
  intro h S
  have fr := mi_Fm_rf h
  refine mi_wp_p (pc' := 1) (st' := [.ref 48]) rfl rfl rfl ?_
  refine ty_s_gr S rfl rfl rfl (List.mem_of_getElem? (i := 57) rfl) ?_
  refine mi_wp_p (pc' := 5) (st' := [.int (Int32.ofInt tk), .ref 3]) rfl rfl rfl ?_
  refine ty_s_cj rfl rfl rfl rfl rfl rfl (mi_cal_v2 (np := 1) (args := [.ref 3, .int (Int32.ofInt tk)]) (rest := []) rfl rfl rfl rfl rfl (Nat.le_of_ble_eq_true rfl) rfl rfl (Nat.le_of_ble_eq_true rfl) (ty_rcS S (List.mem_of_getElem? (i := 3) rfl))) (Nat.le_of_ble_eq_true rfl) S (to_keyOf t0 t1 t2) ?_
  intro x hh σu S f P
  obtain ⟨e1, e2⟩ := P
  rw [e2] at S
  rw [e1, hk]
  clear e1 e2
  replace fr := mi_Fm_tr fr f
  refine mi_s_ldc2 (y := 97) rfl rfl rfl ?_
  refine mi_wp_p (pc' := 12) (st' := [.long 2]) rfl rfl rfl ?_
  refine mi_s_ldc2 (y := 26) rfl rfl rfl ?_
  refine ty_s_cj rfl rfl rfl rfl rfl rfl (mi_cal_s2 (np := 2) (args := [.long 2, .long 26]) (rest := []) rfl rfl rfl (Or.inl rfl) rfl (Nat.le_of_ble_eq_true rfl) rfl rfl (Nat.le_of_ble_eq_true rfl)) (Nat.le_of_ble_eq_true rfl) S fm_jj2 ?_
  intro x hh σu S f P
  obtain ⟨e1, e2⟩ := P
  rw [e2] at S
  rw [e1]
  clear e1 e2
  replace fr := mi_Fm_tr fr f
  refine mi_wp_p (pc' := 19) (st' := [.int (Int32.ofInt 2)]) rfl rfl rfl ?_
  exact ty_s_ret S fr rfl rfl rfl (mi_ret_i rfl) ⟨_, rfl, ⟨rfl, rfl⟩⟩
theorem fo_letter3 {X : mi_X} {σ : mi_Sg} {d : Nat} {tk : Int} (t0 : 0 ≤ tk) (t1 : tk < mi_sF σ 3 7) (t2 : mi_sF σ 3 7 ≤ 301) (hk : mi_sE σ 8 tk = 100) : ty_Ci X (d + 1) mi_M35 [(0, .ref 48), (1, .int (Int32.ofInt tk))] σ (fun x σ' => x = 3 ∧ σ' = σ) := by
  intro h S
  have fr := mi_Fm_rf h
  refine mi_wp_p (pc' := 1) (st' := [.ref 48]) rfl rfl rfl ?_
  refine ty_s_gr S rfl rfl rfl (List.mem_of_getElem? (i := 57) rfl) ?_
  refine mi_wp_p (pc' := 5) (st' := [.int (Int32.ofInt tk), .ref 3]) rfl rfl rfl ?_
  refine ty_s_cj rfl rfl rfl rfl rfl rfl (mi_cal_v2 (np := 1) (args := [.ref 3, .int (Int32.ofInt tk)]) (rest := []) rfl rfl rfl rfl rfl (Nat.le_of_ble_eq_true rfl) rfl rfl (Nat.le_of_ble_eq_true rfl) (ty_rcS S (List.mem_of_getElem? (i := 3) rfl))) (Nat.le_of_ble_eq_true rfl) S (to_keyOf t0 t1 t2) ?_
  intro x hh σu S f P
  obtain ⟨e1, e2⟩ := P
  rw [e2] at S
  rw [e1, hk]
  clear e1 e2
  replace fr := mi_Fm_tr fr f
  refine mi_s_ldc2 (y := 97) rfl rfl rfl ?_
  refine mi_wp_p (pc' := 12) (st' := [.long 3]) rfl rfl rfl ?_
  refine mi_s_ldc2 (y := 26) rfl rfl rfl ?_
  refine ty_s_cj rfl rfl rfl rfl rfl rfl (mi_cal_s2 (np := 2) (args := [.long 3, .long 26]) (rest := []) rfl rfl rfl (Or.inl rfl) rfl (Nat.le_of_ble_eq_true rfl) rfl rfl (Nat.le_of_ble_eq_true rfl)) (Nat.le_of_ble_eq_true rfl) S fm_jj3 ?_
  intro x hh σu S f P
  obtain ⟨e1, e2⟩ := P
  rw [e2] at S
  rw [e1]
  clear e1 e2
  replace fr := mi_Fm_tr fr f
  refine mi_wp_p (pc' := 19) (st' := [.int (Int32.ofInt 3)]) rfl rfl rfl ?_
  exact ty_s_ret S fr rfl rfl rfl (mi_ret_i rfl) ⟨_, rfl, ⟨rfl, rfl⟩⟩
theorem fo_letter4 {X : mi_X} {σ : mi_Sg} {d : Nat} {tk : Int} (t0 : 0 ≤ tk) (t1 : tk < mi_sF σ 3 7) (t2 : mi_sF σ 3 7 ≤ 301) (hk : mi_sE σ 8 tk = 101) : ty_Ci X (d + 1) mi_M35 [(0, .ref 48), (1, .int (Int32.ofInt tk))] σ (fun x σ' => x = 4 ∧ σ' = σ) := by
  intro h S
  have fr := mi_Fm_rf h
  refine mi_wp_p (pc' := 1) (st' := [.ref 48]) rfl rfl rfl ?_
  refine ty_s_gr S rfl rfl rfl (List.mem_of_getElem? (i := 57) rfl) ?_
  refine mi_wp_p (pc' := 5) (st' := [.int (Int32.ofInt tk), .ref 3]) rfl rfl rfl ?_
  refine ty_s_cj rfl rfl rfl rfl rfl rfl (mi_cal_v2 (np := 1) (args := [.ref 3, .int (Int32.ofInt tk)]) (rest := []) rfl rfl rfl rfl rfl (Nat.le_of_ble_eq_true rfl) rfl rfl (Nat.le_of_ble_eq_true rfl) (ty_rcS S (List.mem_of_getElem? (i := 3) rfl))) (Nat.le_of_ble_eq_true rfl) S (to_keyOf t0 t1 t2) ?_
  intro x hh σu S f P
  obtain ⟨e1, e2⟩ := P
  rw [e2] at S
  rw [e1, hk]
  clear e1 e2
  replace fr := mi_Fm_tr fr f
  refine mi_s_ldc2 (y := 97) rfl rfl rfl ?_
  refine mi_wp_p (pc' := 12) (st' := [.long 4]) rfl rfl rfl ?_
  refine mi_s_ldc2 (y := 26) rfl rfl rfl ?_
  refine ty_s_cj rfl rfl rfl rfl rfl rfl (mi_cal_s2 (np := 2) (args := [.long 4, .long 26]) (rest := []) rfl rfl rfl (Or.inl rfl) rfl (Nat.le_of_ble_eq_true rfl) rfl rfl (Nat.le_of_ble_eq_true rfl)) (Nat.le_of_ble_eq_true rfl) S fm_jj4 ?_
  intro x hh σu S f P
  obtain ⟨e1, e2⟩ := P
  rw [e2] at S
  rw [e1]
  clear e1 e2
  replace fr := mi_Fm_tr fr f
  refine mi_wp_p (pc' := 19) (st' := [.int (Int32.ofInt 4)]) rfl rfl rfl ?_
  exact ty_s_ret S fr rfl rfl rfl (mi_ret_i rfl) ⟨_, rfl, ⟨rfl, rfl⟩⟩
theorem fo_letter5 {X : mi_X} {σ : mi_Sg} {d : Nat} {tk : Int} (t0 : 0 ≤ tk) (t1 : tk < mi_sF σ 3 7) (t2 : mi_sF σ 3 7 ≤ 301) (hk : mi_sE σ 8 tk = 102) : ty_Ci X (d + 1) mi_M35 [(0, .ref 48), (1, .int (Int32.ofInt tk))] σ (fun x σ' => x = 5 ∧ σ' = σ) := by
  intro h S
  have fr := mi_Fm_rf h
  refine mi_wp_p (pc' := 1) (st' := [.ref 48]) rfl rfl rfl ?_
  refine ty_s_gr S rfl rfl rfl (List.mem_of_getElem? (i := 57) rfl) ?_
  refine mi_wp_p (pc' := 5) (st' := [.int (Int32.ofInt tk), .ref 3]) rfl rfl rfl ?_
  refine ty_s_cj rfl rfl rfl rfl rfl rfl (mi_cal_v2 (np := 1) (args := [.ref 3, .int (Int32.ofInt tk)]) (rest := []) rfl rfl rfl rfl rfl (Nat.le_of_ble_eq_true rfl) rfl rfl (Nat.le_of_ble_eq_true rfl) (ty_rcS S (List.mem_of_getElem? (i := 3) rfl))) (Nat.le_of_ble_eq_true rfl) S (to_keyOf t0 t1 t2) ?_
  intro x hh σu S f P
  obtain ⟨e1, e2⟩ := P
  rw [e2] at S
  rw [e1, hk]
  clear e1 e2
  replace fr := mi_Fm_tr fr f
  refine mi_s_ldc2 (y := 97) rfl rfl rfl ?_
  refine mi_wp_p (pc' := 12) (st' := [.long 5]) rfl rfl rfl ?_
  refine mi_s_ldc2 (y := 26) rfl rfl rfl ?_
  refine ty_s_cj rfl rfl rfl rfl rfl rfl (mi_cal_s2 (np := 2) (args := [.long 5, .long 26]) (rest := []) rfl rfl rfl (Or.inl rfl) rfl (Nat.le_of_ble_eq_true rfl) rfl rfl (Nat.le_of_ble_eq_true rfl)) (Nat.le_of_ble_eq_true rfl) S fm_jj5 ?_
  intro x hh σu S f P
  obtain ⟨e1, e2⟩ := P
  rw [e2] at S
  rw [e1]
  clear e1 e2
  replace fr := mi_Fm_tr fr f
  refine mi_wp_p (pc' := 19) (st' := [.int (Int32.ofInt 5)]) rfl rfl rfl ?_
  exact ty_s_ret S fr rfl rfl rfl (mi_ret_i rfl) ⟨_, rfl, ⟨rfl, rfl⟩⟩
/-- the key of a letter -/
def ltk (n : Int) : Int64 := if n = 0 then 97 else if n = 1 then 98 else if n = 2 then 99 else if n = 3 then 100 else if n = 4 then 101 else 102
theorem fo_letterOf {X : mi_X} {d : Nat} {σ : mi_Sg} {tk n : Int} (t0 : 0 ≤ tk) (t1 : tk < mi_sF σ 3 7) (t2 : mi_sF σ 3 7 ≤ 301) (hn : 0 ≤ n ∧ n < 6) (hk : mi_sE σ 8 tk = ltk n) : ty_Ci X (d + 1) mi_M35 [(0, .ref 48), (1, .int (Int32.ofInt tk))] σ (fun x σ' => x = n ∧ σ' = σ) := by
  obtain rfl | rfl | rfl | rfl | rfl | rfl : n = 0 ∨ n = 1 ∨ n = 2 ∨ n = 3 ∨ n = 4 ∨ n = 5 := by omega
  · exact fo_letter0 t0 t1 t2 hk
  · exact fo_letter1 t0 t1 t2 hk
  · exact fo_letter2 t0 t1 t2 hk
  · exact fo_letter3 t0 t1 t2 hk
  · exact fo_letter4 t0 t1 t2 hk
  · exact fo_letter5 t0 t1 t2 hk
theorem fo_useMark1 {X : mi_X} {σ : mi_Sg} {d : Nat} {tk n : Int} (t0 : 0 ≤ tk) (t1 : tk < mi_sF σ 3 7) (t2 : mi_sF σ 3 7 ≤ 301) (hn : 0 ≤ n ∧ n < 6) (hk : mi_sE σ 8 tk = ltk n) (v0 : 0 ≤ mi_sF σ 48 7) (v1 : mi_sF σ 48 7 < 300) (hm : 0 < mi_sA σ 49 n ∧ mi_sA σ 49 n < 1000) : ty_Cv X (d + 3) mi_M41 [(0, .ref 48), (1, .int (Int32.ofInt tk))] σ (fun σ' => σ' = mi_uF (mi_uA σ 51 (mi_sF σ 48 7) (mi_sA σ 49 n)) 48 7 (mi_sF σ 48 7 + 1)) := by
  intro h S
  have fr := mi_Fm_rf h
  refine mi_wp_p (pc' := 1) (st' := [.ref 48]) rfl rfl rfl ?_
  refine mi_wp_p (pc' := 2) (st' := [.int (Int32.ofInt tk), .ref 48]) rfl rfl rfl ?_
  refine ty_s_ci rfl rfl rfl rfl rfl rfl (mi_cal_v2 (np := 1) (args := [.ref 48, .int (Int32.ofInt tk)]) (rest := []) rfl rfl rfl rfl rfl (Nat.le_of_ble_eq_true rfl) rfl rfl (Nat.le_of_ble_eq_true rfl) (ty_rcS S (List.mem_of_getElem? (i := 24) rfl))) (Nat.le_of_ble_eq_true rfl) S (fo_letterOf t0 t1 t2 hn hk) ?_
  intro x hh σu S f P
  obtain ⟨e1, e2⟩ := P
  rw [e2] at S
  rw [e1]
  clear e1 e2
  replace fr := mi_Fm_tr fr f
  refine mi_wp_p (pc' := 6) (l' := [(2, .int (Int32.ofInt n)), (0, .ref 48), (1, .int (Int32.ofInt tk))]) (st' := []) rfl rfl rfl ?_
  refine mi_wp_p (pc' := 7) (st' := [.ref 48]) rfl rfl rfl ?_
  refine ty_s_gr S rfl rfl rfl (List.mem_of_getElem? (i := 61) rfl) ?_
  refine mi_wp_p (pc' := 11) (st' := [.int (Int32.ofInt n), .ref 49]) rfl rfl rfl ?_
  refine ty_s_ald (x := mi_sA σ 49 n) S rfl rfl (List.mem_of_getElem? (i := 32) rfl) (by decide) (by omega) (by omega) rfl ?_
  refine mi_s_if1 (t := 38) rfl rfl rfl (by unfold mi_R; omega) (fun _ => ?_) (fun hc_ => absurd (show (mi_sA σ 49 n) ≠ 0 by omega) hc_)
  refine mi_wp_p (pc' := 39) (st' := [.ref 48]) rfl rfl rfl ?_
  refine mi_wp_p (pc' := 40) (st' := [.ref 48, .ref 48]) rfl rfl rfl ?_
  refine ty_s_gr S rfl rfl rfl (List.mem_of_getElem? (i := 61) rfl) ?_
  refine mi_wp_p (pc' := 44) (st' := [.int (Int32.ofInt n), .ref 49, .ref 48]) rfl rfl rfl ?_
  refine ty_s_ald (x := mi_sA σ 49 n) S rfl rfl (List.mem_of_getElem? (i := 32) rfl) (by decide) (by omega) (by omega) rfl ?_
  refine ty_s_cv rfl rfl rfl rfl rfl rfl (mi_cal_v2 (np := 1) (args := [.ref 48, .int (Int32.ofInt (mi_sA σ 49 n))]) (rest := []) rfl rfl rfl rfl rfl (Nat.le_of_ble_eq_true rfl) rfl rfl (Nat.le_of_ble_eq_true rfl) (ty_rcS S (List.mem_of_getElem? (i := 24) rfl))) (Nat.le_of_ble_eq_true rfl) S (fo_putValue v0 v1) ?_
  intro hh σu S f P
  subst P
  replace fr := mi_Fm_tr fr f
  exact ty_s_ret S fr rfl rfl rfl rfl ⟨rfl, rfl⟩
theorem fo_useMark0 {X : mi_X} {σ : mi_Sg} {d : Nat} {tk n : Int} (t0 : 0 ≤ tk) (t1 : tk < mi_sF σ 3 7) (t2 : mi_sF σ 3 7 ≤ 301) (hn : 0 ≤ n ∧ n < 6) (hk : mi_sE σ 8 tk = ltk n) (v0 : 0 ≤ mi_sF σ 48 7) (v1 : mi_sF σ 48 7 < 300) (hm : mi_sA σ 49 n = 0) (hi : mi_sF σ 48 9 = 0) (hu : mi_sF σ 9 8 < 512) : ty_Cv X (d + 3) mi_M41 [(0, .ref 48), (1, .int (Int32.ofInt tk))] σ (fun σ' => σ' = mi_uF (mi_uA (mi_uA (ty_mk σ 4 0 0 0) 49 n (mi_sF σ 9 8)) 51 (mi_sF σ 48 7) (mi_sF σ 9 8)) 48 7 (mi_sF σ 48 7 + 1)) := by
  intro h S
  have fr := mi_Fm_rf h
  refine mi_wp_p (pc' := 1) (st' := [.ref 48]) rfl rfl rfl ?_
  refine mi_wp_p (pc' := 2) (st' := [.int (Int32.ofInt tk), .ref 48]) rfl rfl rfl ?_
  refine ty_s_ci rfl rfl rfl rfl rfl rfl (mi_cal_v2 (np := 1) (args := [.ref 48, .int (Int32.ofInt tk)]) (rest := []) rfl rfl rfl rfl rfl (Nat.le_of_ble_eq_true rfl) rfl rfl (Nat.le_of_ble_eq_true rfl) (ty_rcS S (List.mem_of_getElem? (i := 24) rfl))) (Nat.le_of_ble_eq_true rfl) S (fo_letterOf t0 t1 t2 hn hk) ?_
  intro x hh σu S f P
  obtain ⟨e1, e2⟩ := P
  rw [e2] at S
  rw [e1]
  clear e1 e2
  replace fr := mi_Fm_tr fr f
  refine mi_wp_p (pc' := 6) (l' := [(2, .int (Int32.ofInt n)), (0, .ref 48), (1, .int (Int32.ofInt tk))]) (st' := []) rfl rfl rfl ?_
  refine mi_wp_p (pc' := 7) (st' := [.ref 48]) rfl rfl rfl ?_
  refine ty_s_gr S rfl rfl rfl (List.mem_of_getElem? (i := 61) rfl) ?_
  refine mi_wp_p (pc' := 11) (st' := [.int (Int32.ofInt n), .ref 49]) rfl rfl rfl ?_
  refine ty_s_ald (x := mi_sA σ 49 n) S rfl rfl (List.mem_of_getElem? (i := 32) rfl) (by decide) (by omega) (by omega) rfl ?_
  refine mi_s_if1 (t := 38) rfl rfl rfl (by unfold mi_R; omega) (fun hc_ => absurd (show (mi_sA σ 49 n) ≠ 0 from hc_) (by omega)) (fun _ => ?_)
  refine mi_wp_p (pc' := 16) (st' := [.ref 48]) rfl rfl rfl ?_
  refine mi_wp_p (pc' := 17) (st' := [.ref 48, .ref 48]) rfl rfl rfl ?_
  refine ty_s_gf (x := mi_sF σ 48 9) S rfl rfl rfl (List.mem_of_getElem? (i := 26) rfl) rfl ?_
  rw [hi]
  refine mi_wp_p (pc' := 21) (st' := [.int (Int32.ofInt 2), .int (Int32.ofInt 0), .ref 48]) rfl rfl rfl ?_
  refine mi_wp_p (pc' := 22) (st' := [.int (Int32.ofInt tk), .int (Int32.ofInt 2), .int (Int32.ofInt 0), .ref 48]) rfl rfl rfl ?_
  refine ty_s_cv rfl rfl rfl rfl rfl rfl (mi_cal_v2 (np := 3) (args := [.ref 48, .int (Int32.ofInt 0), .int (Int32.ofInt 2), .int (Int32.ofInt tk)]) (rest := []) rfl rfl rfl rfl rfl (Nat.le_of_ble_eq_true rfl) rfl rfl (Nat.le_of_ble_eq_true rfl) (ty_rcS S (List.mem_of_getElem? (i := 24) rfl))) (Nat.le_of_ble_eq_true rfl) S fo_tellIf0 ?_
  intro hh σu S f P
  obtain rfl := P.symm
  replace fr := mi_Fm_tr fr f
  refine mi_wp_p (pc' := 26) (st' := [.ref 48]) rfl rfl rfl ?_
  refine ty_s_gr S rfl rfl rfl (List.mem_of_getElem? (i := 61) rfl) ?_
  refine mi_wp_p (pc' := 30) (st' := [.int (Int32.ofInt n), .ref 49]) rfl rfl rfl ?_
  refine mi_wp_p (pc' := 31) (st' := [.ref 48, .int (Int32.ofInt n), .ref 49]) rfl rfl rfl ?_
  refine ty_s_gr S rfl rfl rfl (List.mem_of_getElem? (i := 58) rfl) ?_
  refine ty_s_ci rfl rfl rfl rfl rfl rfl (mi_cal_v2 (np := 0) (args := [.ref 9]) (rest := [.int (Int32.ofInt n), .ref 49]) rfl rfl rfl rfl rfl (Nat.le_of_ble_eq_true rfl) rfl rfl (Nat.le_of_ble_eq_true rfl) (ty_rcS S (List.mem_of_getElem? (i := 5) rfl))) (Nat.le_of_ble_eq_true rfl) S (ty_mark hu) ?_
  intro x hh σu S f P
  obtain ⟨e1, e2⟩ := P
  subst e2
  rw [e1]
  clear e1
  replace fr := mi_Fm_tr fr f
  refine ty_s_ast S rfl rfl (List.mem_of_getElem? (i := 32) rfl) (by decide) (by decide) (by omega) (by omega) ?_
  intro h1 S f
  replace fr := mi_Fm_tr fr f
  refine mi_wp_p (pc' := 39) (st' := [.ref 48]) rfl rfl rfl ?_
  refine mi_wp_p (pc' := 40) (st' := [.ref 48, .ref 48]) rfl rfl rfl ?_
  refine ty_s_gr S rfl rfl rfl (List.mem_of_getElem? (i := 61) rfl) ?_
  refine mi_wp_p (pc' := 44) (st' := [.int (Int32.ofInt n), .ref 49, .ref 48]) rfl rfl rfl ?_
  refine ty_s_ald (x := mi_sA (mi_uA (ty_mk σ 4 0 0 0) 49 n (mi_sF σ 9 8)) 49 n) S rfl rfl (List.mem_of_getElem? (i := 32) rfl) (by decide) (by omega) (by omega) rfl ?_
  refine ty_s_cv rfl rfl rfl rfl rfl rfl (mi_cal_v2 (np := 1) (args := [.ref 48, .int (Int32.ofInt (mi_sA (mi_uA (ty_mk σ 4 0 0 0) 49 n (mi_sF σ 9 8)) 49 n))]) (rest := []) rfl rfl rfl rfl rfl (Nat.le_of_ble_eq_true rfl) rfl rfl (Nat.le_of_ble_eq_true rfl) (ty_rcS S (List.mem_of_getElem? (i := 24) rfl))) (Nat.le_of_ble_eq_true rfl) S (fo_putValue (σ := (mi_uA (ty_mk σ 4 0 0 0) 49 n (mi_sF σ 9 8))) v0 v1) ?_
  intro hh σu S f P
  subst P
  replace fr := mi_Fm_tr fr f
  exact ty_s_ret S fr rfl rfl rfl rfl ⟨rfl, by rw [mi_AA, if_pos ⟨rfl, rfl⟩]; rfl⟩
