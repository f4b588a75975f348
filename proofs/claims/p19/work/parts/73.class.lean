/-! ===== TypeLoom: its methods from what they call (printed by wip/gen/p_class.py) ===== -/
theorem wr_wipe {X : mi_X} {d : Nat} {σ : mi_Sg}  : ty_Cv X d mi_M166 [(0, .ref 52)] σ (fun σ' => σ' = mi_uF σ 52 5 0) := by
  intro h S
  have fr := mi_Fm_rf h
  refine mi_wp_p (pc' := 1) (st' := [.ref 52]) rfl rfl rfl ?_
  refine mi_wp_p (pc' := 2) (st' := [.int (Int32.ofInt 0), .ref 52]) rfl rfl rfl ?_
  refine ty_s_pf S rfl rfl rfl (List.mem_of_getElem? (i := 28) rfl) (by decide) mi_fit_int (Or.inl rfl) ?_
  intro h1 S f
  replace fr := mi_Fm_tr fr f
  exact ty_s_ret S fr rfl rfl rfl rfl ⟨rfl, rfl⟩
theorem wr_size {X : mi_X} {d : Nat} {σ : mi_Sg}  : ty_Ci X d mi_M165 [(0, .ref 52)] σ (fun x σ' => x = mi_sF σ 52 5 ∧ σ' = σ) := by
  intro h S
  have fr := mi_Fm_rf h
  refine mi_wp_p (pc' := 1) (st' := [.ref 52]) rfl rfl rfl ?_
  refine ty_s_gf (x := mi_sF σ 52 5) S rfl rfl rfl (List.mem_of_getElem? (i := 28) rfl) rfl ?_
  exact ty_s_ret S fr rfl rfl rfl (mi_ret_i rfl) ⟨_, rfl, ⟨rfl, rfl⟩⟩
theorem wr_byteOn {X : mi_X} {d : Nat} {σ : mi_Sg} {k : Int} (h0 : 0 ≤ k) (h1 : k < mi_sF σ 52 5) (h2 : mi_sF σ 52 5 ≤ 400) : ty_Ci X d mi_M151 [(0, .ref 52), (1, .int (Int32.ofInt k))] σ (fun x σ' => x = mi_sA σ 53 k ∧ σ' = σ) := by
  intro h S
  have fr := mi_Fm_rf h
  refine mi_wp_p (pc' := 1) (st' := [.int (Int32.ofInt k)]) rfl rfl rfl ?_
  refine mi_s_if1 (t := 21) rfl rfl rfl (by unfold mi_R; omega) (fun hc_ => absurd (show k < 0 from hc_) (by omega)) (fun _ => ?_)
  refine mi_wp_p (pc' := 5) (st' := [.int (Int32.ofInt k)]) rfl rfl rfl ?_
  refine mi_wp_p (pc' := 6) (st' := [.ref 52, .int (Int32.ofInt k)]) rfl rfl rfl ?_
  refine ty_s_gf (x := mi_sF σ 52 5) S rfl rfl rfl (List.mem_of_getElem? (i := 28) rfl) rfl ?_
  refine mi_s_if2 (t := 21) rfl rfl rfl (by unfold mi_R; omega) (by unfold mi_R; omega) (fun hc_ => absurd (show (mi_sF σ 52 5) ≤ k from hc_) (by omega)) (fun _ => ?_)
  refine mi_wp_p (pc' := 13) (st' := [.ref 52]) rfl rfl rfl ?_
  refine ty_s_gr S rfl rfl rfl (List.mem_of_getElem? (i := 66) rfl) ?_
  refine mi_wp_p (pc' := 17) (st' := [.int (Int32.ofInt k), .ref 53]) rfl rfl rfl ?_
  refine ty_s_bld (x := mi_sA σ 53 k) S rfl rfl (List.mem_of_getElem? (i := 35) rfl) (by decide) (Or.inl rfl) (by omega) (by omega) rfl ?_
  refine mi_wp_p (pc' := 22) rfl rfl rfl ?_
  exact ty_s_ret S fr rfl rfl rfl (mi_ret_i rfl) ⟨_, rfl, ⟨rfl, rfl⟩⟩
theorem tl_trim {X : mi_X} {d : Nat} {σ : mi_Sg} {n : Int} (h0 : 0 ≤ n) (h1 : n ≤ mi_sF σ 0 10) (h2 : mi_sF σ 0 10 ≤ 1200) : ty_Ci X d mi_M13 [(0, .ref 0), (1, .int (Int32.ofInt n))] σ (fun x σ' => x = n ∧ σ' = mi_uF σ 0 10 n) := by
  intro h S
  have fr := mi_Fm_rf h
  refine mi_wp_p (pc' := 1) (st' := [.int (Int32.ofInt n)]) rfl rfl rfl ?_
  refine mi_s_if1 (t := 12) rfl rfl rfl (by unfold mi_R; omega) (fun hc_ => absurd (show n < 0 from hc_) (by omega)) (fun _ => ?_)
  refine mi_wp_p (pc' := 5) (st' := [.int (Int32.ofInt n)]) rfl rfl rfl ?_
  refine mi_wp_p (pc' := 6) (st' := [.ref 0, .int (Int32.ofInt n)]) rfl rfl rfl ?_
  refine ty_s_gf (x := mi_sF σ 0 10) S rfl rfl rfl (List.mem_of_getElem? (i := 0) rfl) rfl ?_
  refine mi_s_if2 (t := 22) rfl rfl rfl (by unfold mi_R; omega) (by unfold mi_R; omega) (fun _ => ?_) (fun hc_ => absurd (show n ≤ (mi_sF σ 0 10) by omega) hc_)
  refine mi_wp_p (pc' := 23) (st' := [.ref 0]) rfl rfl rfl ?_
  refine mi_wp_p (pc' := 24) (st' := [.int (Int32.ofInt n), .ref 0]) rfl rfl rfl ?_
  refine ty_s_pf S rfl rfl rfl (List.mem_of_getElem? (i := 0) rfl) (by decide) mi_fit_int (Or.inl rfl) ?_
  intro h2 S f
  replace fr := mi_Fm_tr fr f
  refine mi_wp_p (pc' := 28) (st' := [.int (Int32.ofInt n)]) rfl rfl rfl ?_
  exact ty_s_ret S fr rfl rfl rfl (mi_ret_i rfl) ⟨_, rfl, ⟨rfl, rfl⟩⟩
theorem tl_amount2 {X : mi_X} {σ : mi_Sg} {d : Nat}  : ty_Ci X (d + 1) mi_M1 [(0, .ref 0), (1, .int (Int32.ofInt 2))] σ (fun x σ' => x = mi_sF σ 17 14 ∧ σ' = σ) := by
  intro h S
  have fr := mi_Fm_rf h
  refine mi_wp_p (pc' := 1) (st' := [.int (Int32.ofInt 2)]) rfl rfl rfl ?_
  refine mi_wp_p (pc' := 48) (l' := [(0, .ref 0), (1, .int (Int32.ofInt 2))]) (st' := []) rfl rfl rfl ?_
  refine mi_wp_p (pc' := 49) (st' := [.ref 0]) rfl rfl rfl ?_
  refine ty_s_gr S rfl rfl rfl (List.mem_of_getElem? (i := 4) rfl) ?_
  refine ty_s_ci rfl rfl rfl rfl rfl rfl (mi_cal_v2 (np := 0) (args := [.ref 17]) (rest := []) rfl rfl rfl rfl rfl (Nat.le_of_ble_eq_true rfl) rfl rfl (Nat.le_of_ble_eq_true rfl) (ty_rcS S (List.mem_of_getElem? (i := 10) rfl))) (Nat.le_of_ble_eq_true rfl) S kn_definitions ?_
  intro x hh σu S f P
  obtain ⟨e1, e2⟩ := P
  rw [e2] at S
  rw [e1]
  clear e1 e2
  replace fr := mi_Fm_tr fr f
  exact ty_s_ret S fr rfl rfl rfl (mi_ret_i rfl) ⟨_, rfl, ⟨rfl, rfl⟩⟩
theorem tl_count2 {X : mi_X} {σ : mi_Sg} {d : Nat}  : ty_Ci X (d + 2) mi_M6 [(0, .ref 0), (1, .int (Int32.ofInt 2))] σ (fun x σ' => x = mi_sF σ 17 14 ∧ σ' = σ) := by
  intro h S
  have fr := mi_Fm_rf h
  refine mi_wp_p (pc' := 1) (st' := [.int (Int32.ofInt 2)]) rfl rfl rfl ?_
  refine mi_s_if1 (t := 9) rfl rfl rfl (by unfold mi_R; omega) (fun hc_ => absurd (show (2 : Int) < 0 from hc_) (by omega)) (fun _ => ?_)
  refine mi_wp_p (pc' := 5) (st' := [.int (Int32.ofInt 2)]) rfl rfl rfl ?_
  refine mi_wp_p (pc' := 6) (st' := [.int (Int32.ofInt 5), .int (Int32.ofInt 2)]) rfl rfl rfl ?_
  refine mi_s_if2 (t := 19) rfl rfl rfl (by unfold mi_R; omega) (by unfold mi_R; omega) (fun _ => ?_) (fun hc_ => absurd (show (2 : Int) < 5 by omega) hc_)
  refine mi_wp_p (pc' := 20) (st' := [.ref 0]) rfl rfl rfl ?_
  refine mi_wp_p (pc' := 21) (st' := [.int (Int32.ofInt 2), .ref 0]) rfl rfl rfl ?_
  refine ty_s_ci rfl rfl rfl rfl rfl rfl (mi_cal_v2 (np := 1) (args := [.ref 0, .int (Int32.ofInt 2)]) (rest := []) rfl rfl rfl rfl rfl (Nat.le_of_ble_eq_true rfl) rfl rfl (Nat.le_of_ble_eq_true rfl) (ty_rcS S (List.mem_of_getElem? (i := 0) rfl))) (Nat.le_of_ble_eq_true rfl) S tl_amount2 ?_
  intro x hh σu S f P
  obtain ⟨e1, e2⟩ := P
  rw [e2] at S
  rw [e1]
  clear e1 e2
  replace fr := mi_Fm_tr fr f
  exact ty_s_ret S fr rfl rfl rfl (mi_ret_i rfl) ⟨_, rfl, ⟨rfl, rfl⟩⟩
theorem tl_amount3 {X : mi_X} {σ : mi_Sg} {d : Nat}  : ty_Ci X (d + 1) mi_M1 [(0, .ref 0), (1, .int (Int32.ofInt 3))] σ (fun x σ' => x = mi_sF σ 0 10 ∧ σ' = σ) := by
  intro h S
  have fr := mi_Fm_rf h
  refine mi_wp_p (pc' := 1) (st' := [.int (Int32.ofInt 3)]) rfl rfl rfl ?_
  refine mi_wp_p (pc' := 56) (l' := [(0, .ref 0), (1, .int (Int32.ofInt 3))]) (st' := []) rfl rfl rfl ?_
  refine mi_wp_p (pc' := 57) (st' := [.ref 0]) rfl rfl rfl ?_
  refine ty_s_gf (x := mi_sF σ 0 10) S rfl rfl rfl (List.mem_of_getElem? (i := 0) rfl) rfl ?_
  exact ty_s_ret S fr rfl rfl rfl (mi_ret_i rfl) ⟨_, rfl, ⟨rfl, rfl⟩⟩
theorem tl_count3 {X : mi_X} {σ : mi_Sg} {d : Nat}  : ty_Ci X (d + 2) mi_M6 [(0, .ref 0), (1, .int (Int32.ofInt 3))] σ (fun x σ' => x = mi_sF σ 0 10 ∧ σ' = σ) := by
  intro h S
  have fr := mi_Fm_rf h
  refine mi_wp_p (pc' := 1) (st' := [.int (Int32.ofInt 3)]) rfl rfl rfl ?_
  refine mi_s_if1 (t := 9) rfl rfl rfl (by unfold mi_R; omega) (fun hc_ => absurd (show (3 : Int) < 0 from hc_) (by omega)) (fun _ => ?_)
  refine mi_wp_p (pc' := 5) (st' := [.int (Int32.ofInt 3)]) rfl rfl rfl ?_
  refine mi_wp_p (pc' := 6) (st' := [.int (Int32.ofInt 5), .int (Int32.ofInt 3)]) rfl rfl rfl ?_
  refine mi_s_if2 (t := 19) rfl rfl rfl (by unfold mi_R; omega) (by unfold mi_R; omega) (fun _ => ?_) (fun hc_ => absurd (show (3 : Int) < 5 by omega) hc_)
  refine mi_wp_p (pc' := 20) (st' := [.ref 0]) rfl rfl rfl ?_
  refine mi_wp_p (pc' := 21) (st' := [.int (Int32.ofInt 3), .ref 0]) rfl rfl rfl ?_
  refine ty_s_ci rfl rfl rfl rfl rfl rfl (mi_cal_v2 (np := 1) (args := [.ref 0, .int (Int32.ofInt 3)]) (rest := []) rfl rfl rfl rfl rfl (Nat.le_of_ble_eq_true rfl) rfl rfl (Nat.le_of_ble_eq_true rfl) (ty_rcS S (List.mem_of_getElem? (i := 0) rfl))) (Nat.le_of_ble_eq_true rfl) S tl_amount3 ?_
  intro x hh σu S f P
  obtain ⟨e1, e2⟩ := P
  rw [e2] at S
  rw [e1]
  clear e1 e2
  replace fr := mi_Fm_tr fr f
  exact ty_s_ret S fr rfl rfl rfl (mi_ret_i rfl) ⟨_, rfl, ⟨rfl, rfl⟩⟩
theorem tl_amount4 {X : mi_X} {σ : mi_Sg} {d : Nat}  : ty_Ci X (d + 1) mi_M1 [(0, .ref 0), (1, .int (Int32.ofInt 4))] σ (fun x σ' => x = mi_sF σ 52 5 ∧ σ' = σ) := by
  intro h S
  have fr := mi_Fm_rf h
  refine mi_wp_p (pc' := 1) (st' := [.int (Int32.ofInt 4)]) rfl rfl rfl ?_
  refine mi_wp_p (pc' := 61) (l' := [(0, .ref 0), (1, .int (Int32.ofInt 4))]) (st' := []) rfl rfl rfl ?_
  refine mi_wp_p (pc' := 62) (st' := [.ref 0]) rfl rfl rfl ?_
  refine ty_s_gr S rfl rfl rfl (List.mem_of_getElem? (i := 9) rfl) ?_
  refine ty_s_ci rfl rfl rfl rfl rfl rfl (mi_cal_v2 (np := 0) (args := [.ref 52]) (rest := []) rfl rfl rfl rfl rfl (Nat.le_of_ble_eq_true rfl) rfl rfl (Nat.le_of_ble_eq_true rfl) (ty_rcS S (List.mem_of_getElem? (i := 27) rfl))) (Nat.le_of_ble_eq_true rfl) S wr_size ?_
  intro x hh σu S f P
  obtain ⟨e1, e2⟩ := P
  rw [e2] at S
  rw [e1]
  clear e1 e2
  replace fr := mi_Fm_tr fr f
  exact ty_s_ret S fr rfl rfl rfl (mi_ret_i rfl) ⟨_, rfl, ⟨rfl, rfl⟩⟩
theorem tl_count4 {X : mi_X} {σ : mi_Sg} {d : Nat}  : ty_Ci X (d + 2) mi_M6 [(0, .ref 0), (1, .int (Int32.ofInt 4))] σ (fun x σ' => x = mi_sF σ 52 5 ∧ σ' = σ) := by
  intro h S
  have fr := mi_Fm_rf h
  refine mi_wp_p (pc' := 1) (st' := [.int (Int32.ofInt 4)]) rfl rfl rfl ?_
  refine mi_s_if1 (t := 9) rfl rfl rfl (by unfold mi_R; omega) (fun hc_ => absurd (show (4 : Int) < 0 from hc_) (by omega)) (fun _ => ?_)
  refine mi_wp_p (pc' := 5) (st' := [.int (Int32.ofInt 4)]) rfl rfl rfl ?_
  refine mi_wp_p (pc' := 6) (st' := [.int (Int32.ofInt 5), .int (Int32.ofInt 4)]) rfl rfl rfl ?_
  refine mi_s_if2 (t := 19) rfl rfl rfl (by unfold mi_R; omega) (by unfold mi_R; omega) (fun _ => ?_) (fun hc_ => absurd (show (4 : Int) < 5 by omega) hc_)
  refine mi_wp_p (pc' := 20) (st' := [.ref 0]) rfl rfl rfl ?_
  refine mi_wp_p (pc' := 21) (st' := [.int (Int32.ofInt 4), .ref 0]) rfl rfl rfl ?_
  refine ty_s_ci rfl rfl rfl rfl rfl rfl (mi_cal_v2 (np := 1) (args := [.ref 0, .int (Int32.ofInt 4)]) (rest := []) rfl rfl rfl rfl rfl (Nat.le_of_ble_eq_true rfl) rfl rfl (Nat.le_of_ble_eq_true rfl) (ty_rcS S (List.mem_of_getElem? (i := 0) rfl))) (Nat.le_of_ble_eq_true rfl) S tl_amount4 ?_
  intro x hh σu S f P
  obtain ⟨e1, e2⟩ := P
  rw [e2] at S
  rw [e1]
  clear e1 e2
  replace fr := mi_Fm_tr fr f
  exact ty_s_ret S fr rfl rfl rfl (mi_ret_i rfl) ⟨_, rfl, ⟨rfl, rfl⟩⟩
theorem tl_uses {X : mi_X} {σ : mi_Sg} {d : Nat} {a b : Int} (a0 : 0 ≤ a) (a1 : a < mi_sF σ 17 14) (u : mi_sF σ 17 14 ≤ 24) (b0 : 0 ≤ b) (b1 : b < mi_sF σ 17 14) : ty_Ci X (d + 2) mi_M14 [(0, .ref 0), (1, .int (Int32.ofInt a)), (2, .int (Int32.ofInt b))] σ (fun x σ' => x = mi_sA σ 25 (a * 24 + b) ∧ σ' = σ) := by
  intro h S
  have fr := mi_Fm_rf h
  refine mi_wp_p (pc' := 1) (st' := [.ref 0]) rfl rfl rfl ?_
  refine ty_s_gr S rfl rfl rfl (List.mem_of_getElem? (i := 4) rfl) ?_
  refine mi_wp_p (pc' := 5) (st' := [.int (Int32.ofInt a), .ref 17]) rfl rfl rfl ?_
  refine ty_s_ci rfl rfl rfl rfl rfl rfl (mi_cal_v2 (np := 1) (args := [.ref 17, .int (Int32.ofInt a)]) (rest := []) rfl rfl rfl rfl rfl (Nat.le_of_ble_eq_true rfl) rfl rfl (Nat.le_of_ble_eq_true rfl) (ty_rcS S (List.mem_of_getElem? (i := 10) rfl))) (Nat.le_of_ble_eq_true rfl) S (kn_hasDefinition a0 a1 u) ?_
  intro x hh σu S f P
  obtain ⟨e1, e2⟩ := P
  rw [e2] at S
  rw [e1]
  clear e1 e2
  replace fr := mi_Fm_tr fr f
  refine mi_s_if1 (t := 22) rfl rfl rfl (by unfold mi_R; omega) (fun hc_ => absurd (show (1 : Int) = 0 from hc_) (by omega)) (fun _ => ?_)
  refine mi_wp_p (pc' := 12) (st' := [.ref 0]) rfl rfl rfl ?_
  refine ty_s_gr S rfl rfl rfl (List.mem_of_getElem? (i := 4) rfl) ?_
  refine mi_wp_p (pc' := 16) (st' := [.int (Int32.ofInt b), .ref 17]) rfl rfl rfl ?_
  refine ty_s_ci rfl rfl rfl rfl rfl rfl (mi_cal_v2 (np := 1) (args := [.ref 17, .int (Int32.ofInt b)]) (rest := []) rfl rfl rfl rfl rfl (Nat.le_of_ble_eq_true rfl) rfl rfl (Nat.le_of_ble_eq_true rfl) (ty_rcS S (List.mem_of_getElem? (i := 10) rfl))) (Nat.le_of_ble_eq_true rfl) S (kn_hasDefinition b0 b1 u) ?_
  intro x hh σu S f P
  obtain ⟨e1, e2⟩ := P
  rw [e2] at S
  rw [e1]
  clear e1 e2
  replace fr := mi_Fm_tr fr f
  refine mi_s_if1 (t := 32) rfl rfl rfl (by unfold mi_R; omega) (fun _ => ?_) (fun hc_ => absurd (show (1 : Int) ≠ 0 by omega) hc_)
  refine mi_wp_p (pc' := 33) (st' := [.ref 0]) rfl rfl rfl ?_
  refine ty_s_gr S rfl rfl rfl (List.mem_of_getElem? (i := 4) rfl) ?_
  refine mi_wp_p (pc' := 37) (st' := [.int (Int32.ofInt a), .ref 17]) rfl rfl rfl ?_
  refine mi_wp_p (pc' := 38) (st' := [.int (Int32.ofInt b), .int (Int32.ofInt a), .ref 17]) rfl rfl rfl ?_
  refine ty_s_ci rfl rfl rfl rfl rfl rfl (mi_cal_v2 (np := 2) (args := [.ref 17, .int (Int32.ofInt a), .int (Int32.ofInt b)]) (rest := []) rfl rfl rfl rfl rfl (Nat.le_of_ble_eq_true rfl) rfl rfl (Nat.le_of_ble_eq_true rfl) (ty_rcS S (List.mem_of_getElem? (i := 10) rfl))) (Nat.le_of_ble_eq_true rfl) S (kn_timesUsed a0 a1 u b0 b1) ?_
  intro x hh σu S f P
  obtain ⟨e1, e2⟩ := P
  rw [e2] at S
  rw [e1]
  clear e1 e2
  replace fr := mi_Fm_tr fr f
  exact ty_s_ret S fr rfl rfl rfl (mi_ret_i rfl) ⟨_, rfl, ⟨rfl, rfl⟩⟩
theorem tl_byteAt {X : mi_X} {σ : mi_Sg} {d : Nat} {k : Int} (h0 : 0 ≤ k) (h1 : k < mi_sF σ 52 5) (h2 : mi_sF σ 52 5 ≤ 400) : ty_Ci X (d + 1) mi_M4 [(0, .ref 0), (1, .int (Int32.ofInt k))] σ (fun x σ' => x = mi_sA σ 53 k ∧ σ' = σ) := by
  intro h S
  have fr := mi_Fm_rf h
  refine mi_wp_p (pc' := 1) (st' := [.int (Int32.ofInt k)]) rfl rfl rfl ?_
  refine mi_s_if1 (t := 15) rfl rfl rfl (by unfold mi_R; omega) (fun hc_ => absurd (show k < 0 from hc_) (by omega)) (fun _ => ?_)
  refine mi_wp_p (pc' := 5) (st' := [.int (Int32.ofInt k)]) rfl rfl rfl ?_
  refine mi_wp_p (pc' := 6) (st' := [.ref 0, .int (Int32.ofInt k)]) rfl rfl rfl ?_
  refine ty_s_gr S rfl rfl rfl (List.mem_of_getElem? (i := 9) rfl) ?_
  refine ty_s_ci rfl rfl rfl rfl rfl rfl (mi_cal_v2 (np := 0) (args := [.ref 52]) (rest := [.int (Int32.ofInt k)]) rfl rfl rfl rfl rfl (Nat.le_of_ble_eq_true rfl) rfl rfl (Nat.le_of_ble_eq_true rfl) (ty_rcS S (List.mem_of_getElem? (i := 27) rfl))) (Nat.le_of_ble_eq_true rfl) S wr_size ?_
  intro x hh σu S f P
  obtain ⟨e1, e2⟩ := P
  rw [e2] at S
  rw [e1]
  clear e1 e2
  replace fr := mi_Fm_tr fr f
  refine mi_s_if2 (t := 25) rfl rfl rfl (by unfold mi_R; omega) (by unfold mi_R; omega) (fun _ => ?_) (fun hc_ => absurd (show k < (mi_sF σ 52 5) by omega) hc_)
  refine mi_wp_p (pc' := 26) (st' := [.ref 0]) rfl rfl rfl ?_
  refine ty_s_gr S rfl rfl rfl (List.mem_of_getElem? (i := 9) rfl) ?_
  refine mi_wp_p (pc' := 30) (st' := [.int (Int32.ofInt k), .ref 52]) rfl rfl rfl ?_
  refine ty_s_ci rfl rfl rfl rfl rfl rfl (mi_cal_v2 (np := 1) (args := [.ref 52, .int (Int32.ofInt k)]) (rest := []) rfl rfl rfl rfl rfl (Nat.le_of_ble_eq_true rfl) rfl rfl (Nat.le_of_ble_eq_true rfl) (ty_rcS S (List.mem_of_getElem? (i := 27) rfl))) (Nat.le_of_ble_eq_true rfl) S (wr_byteOn h0 h1 h2) ?_
  intro x hh σu S f P
  obtain ⟨e1, e2⟩ := P
  rw [e2] at S
  rw [e1]
  clear e1 e2
  replace fr := mi_Fm_tr fr f
  exact ty_s_ret S fr rfl rfl rfl (mi_ret_i rfl) ⟨_, rfl, ⟨rfl, rfl⟩⟩
theorem tl_measured0 {X : mi_X} {σ : mi_Sg} {d : Nat} {a : Int} {P : Int → mi_Sg → Prop} (a0 : 0 ≤ a) (a1 : a < mi_sF σ 17 14) (u : mi_sF σ 17 14 ≤ 24) (H : ty_Ci X (d + 1) mi_M143 [(0, .ref 9), (1, .int (Int32.ofInt (mi_sA σ 24 a)))] σ P) : ty_Ci X (d + 2) mi_M11 [(0, .ref 0), (1, .int (Int32.ofInt a)), (2, .int (Int32.ofInt 0))] σ (fun x σ' => P x σ') := by
  intro h S
  have fr := mi_Fm_rf h
  refine mi_wp_p (pc' := 1) (st' := [.ref 0]) rfl rfl rfl ?_
  refine ty_s_gr S rfl rfl rfl (List.mem_of_getElem? (i := 4) rfl) ?_
  refine mi_wp_p (pc' := 5) (st' := [.int (Int32.ofInt a), .ref 17]) rfl rfl rfl ?_
  refine ty_s_ci rfl rfl rfl rfl rfl rfl (mi_cal_v2 (np := 1) (args := [.ref 17, .int (Int32.ofInt a)]) (rest := []) rfl rfl rfl rfl rfl (Nat.le_of_ble_eq_true rfl) rfl rfl (Nat.le_of_ble_eq_true rfl) (ty_rcS S (List.mem_of_getElem? (i := 10) rfl))) (Nat.le_of_ble_eq_true rfl) S (kn_typeOfDefinition a0 a1 u) ?_
  intro x hh σu S f P
  obtain ⟨e1, e2⟩ := P
  rw [e2] at S
  rw [e1]
  clear e1 e2
  replace fr := mi_Fm_tr fr f
  refine mi_wp_p (pc' := 9) (l' := [(3, .int (Int32.ofInt (mi_sA σ 24 a))), (0, .ref 0), (1, .int (Int32.ofInt a)), (2, .int (Int32.ofInt 0))]) (st' := []) rfl rfl rfl ?_
  refine mi_wp_p (pc' := 10) (st' := [.int (Int32.ofInt 0)]) rfl rfl rfl ?_
  refine mi_wp_p (pc' := 36) (l' := [(3, .int (Int32.ofInt (mi_sA σ 24 a))), (0, .ref 0), (1, .int (Int32.ofInt a)), (2, .int (Int32.ofInt 0))]) (st' := []) rfl rfl rfl ?_
  refine mi_wp_p (pc' := 37) (st' := [.ref 0]) rfl rfl rfl ?_
  refine ty_s_gr S rfl rfl rfl (List.mem_of_getElem? (i := 3) rfl) ?_
  refine mi_wp_p (pc' := 41) (st' := [.int (Int32.ofInt (mi_sA σ 24 a)), .ref 9]) rfl rfl rfl ?_
  refine ty_s_ci rfl rfl rfl rfl rfl rfl (mi_cal_v2 (np := 1) (args := [.ref 9, .int (Int32.ofInt (mi_sA σ 24 a))]) (rest := []) rfl rfl rfl rfl rfl (Nat.le_of_ble_eq_true rfl) rfl rfl (Nat.le_of_ble_eq_true rfl) (ty_rcS S (List.mem_of_getElem? (i := 5) rfl))) (Nat.le_of_ble_eq_true rfl) S H ?_
  intro x hh σ1 S f P1
  replace fr := mi_Fm_tr fr f
  exact ty_s_ret S fr rfl rfl rfl (mi_ret_i rfl) ⟨_, rfl, P1⟩
theorem tl_measure0 {X : mi_X} {σ : mi_Sg} {d : Nat} {a : Int} {P : Int → mi_Sg → Prop} (a0 : 0 ≤ a) (a1 : a < mi_sF σ 17 14) (u : mi_sF σ 17 14 ≤ 24) (H : ty_Ci X (d + 1) mi_M143 [(0, .ref 9), (1, .int (Int32.ofInt (mi_sA σ 24 a)))] σ P) : ty_Ci X (d + 3) mi_M10 [(0, .ref 0), (1, .int (Int32.ofInt a)), (2, .int (Int32.ofInt 0))] σ (fun x σ' => P x σ') := by
  intro h S
  have fr := mi_Fm_rf h
  refine mi_wp_p (pc' := 1) (st' := [.ref 0]) rfl rfl rfl ?_
  refine ty_s_gr S rfl rfl rfl (List.mem_of_getElem? (i := 4) rfl) ?_
  refine mi_wp_p (pc' := 5) (st' := [.int (Int32.ofInt a), .ref 17]) rfl rfl rfl ?_
  refine ty_s_ci rfl rfl rfl rfl rfl rfl (mi_cal_v2 (np := 1) (args := [.ref 17, .int (Int32.ofInt a)]) (rest := []) rfl rfl rfl rfl rfl (Nat.le_of_ble_eq_true rfl) rfl rfl (Nat.le_of_ble_eq_true rfl) (ty_rcS S (List.mem_of_getElem? (i := 10) rfl))) (Nat.le_of_ble_eq_true rfl) S (kn_hasDefinition a0 a1 u) ?_
  intro x hh σu S f P
  obtain ⟨e1, e2⟩ := P
  rw [e2] at S
  rw [e1]
  clear e1 e2
  replace fr := mi_Fm_tr fr f
  refine mi_s_if1 (t := 20) rfl rfl rfl (by unfold mi_R; omega) (fun hc_ => absurd (show (1 : Int) = 0 from hc_) (by omega)) (fun _ => ?_)
  refine mi_wp_p (pc' := 12) (st' := [.int (Int32.ofInt 0)]) rfl rfl rfl ?_
  refine mi_s_if1 (t := 20) rfl rfl rfl (by unfold mi_R; omega) (fun hc_ => absurd (show (0 : Int) < 0 from hc_) (by omega)) (fun _ => ?_)
  refine mi_wp_p (pc' := 16) (st' := [.int (Int32.ofInt 0)]) rfl rfl rfl ?_
  refine mi_wp_p (pc' := 17) (st' := [.int (Int32.ofInt 3), .int (Int32.ofInt 0)]) rfl rfl rfl ?_
  refine mi_s_if2 (t := 30) rfl rfl rfl (by unfold mi_R; omega) (by unfold mi_R; omega) (fun _ => ?_) (fun hc_ => absurd (show (0 : Int) < 3 by omega) hc_)
  refine mi_wp_p (pc' := 31) (st' := [.ref 0]) rfl rfl rfl ?_
  refine mi_wp_p (pc' := 32) (st' := [.int (Int32.ofInt a), .ref 0]) rfl rfl rfl ?_
  refine mi_wp_p (pc' := 33) (st' := [.int (Int32.ofInt 0), .int (Int32.ofInt a), .ref 0]) rfl rfl rfl ?_
  refine ty_s_ci rfl rfl rfl rfl rfl rfl (mi_cal_v2 (np := 2) (args := [.ref 0, .int (Int32.ofInt a), .int (Int32.ofInt 0)]) (rest := []) rfl rfl rfl rfl rfl (Nat.le_of_ble_eq_true rfl) rfl rfl (Nat.le_of_ble_eq_true rfl) (ty_rcS S (List.mem_of_getElem? (i := 0) rfl))) (Nat.le_of_ble_eq_true rfl) S (tl_measured0 a0 a1 u H) ?_
  intro x hh σ1 S f P1
  replace fr := mi_Fm_tr fr f
  exact ty_s_ret S fr rfl rfl rfl (mi_ret_i rfl) ⟨_, rfl, P1⟩
theorem tl_measured1 {X : mi_X} {σ : mi_Sg} {d : Nat} {a : Int} {P : Int → mi_Sg → Prop} (a0 : 0 ≤ a) (a1 : a < mi_sF σ 17 14) (u : mi_sF σ 17 14 ≤ 24) (H : ty_Ci X (d + 1) mi_M139 [(0, .ref 9), (1, .int (Int32.ofInt (mi_sA σ 24 a)))] σ P) : ty_Ci X (d + 2) mi_M11 [(0, .ref 0), (1, .int (Int32.ofInt a)), (2, .int (Int32.ofInt 1))] σ (fun x σ' => P x σ') := by
  intro h S
  have fr := mi_Fm_rf h
  refine mi_wp_p (pc' := 1) (st' := [.ref 0]) rfl rfl rfl ?_
  refine ty_s_gr S rfl rfl rfl (List.mem_of_getElem? (i := 4) rfl) ?_
  refine mi_wp_p (pc' := 5) (st' := [.int (Int32.ofInt a), .ref 17]) rfl rfl rfl ?_
  refine ty_s_ci rfl rfl rfl rfl rfl rfl (mi_cal_v2 (np := 1) (args := [.ref 17, .int (Int32.ofInt a)]) (rest := []) rfl rfl rfl rfl rfl (Nat.le_of_ble_eq_true rfl) rfl rfl (Nat.le_of_ble_eq_true rfl) (ty_rcS S (List.mem_of_getElem? (i := 10) rfl))) (Nat.le_of_ble_eq_true rfl) S (kn_typeOfDefinition a0 a1 u) ?_
  intro x hh σu S f P
  obtain ⟨e1, e2⟩ := P
  rw [e2] at S
  rw [e1]
  clear e1 e2
  replace fr := mi_Fm_tr fr f
  refine mi_wp_p (pc' := 9) (l' := [(3, .int (Int32.ofInt (mi_sA σ 24 a))), (0, .ref 0), (1, .int (Int32.ofInt a)), (2, .int (Int32.ofInt 1))]) (st' := []) rfl rfl rfl ?_
  refine mi_wp_p (pc' := 10) (st' := [.int (Int32.ofInt 1)]) rfl rfl rfl ?_
  refine mi_wp_p (pc' := 45) (l' := [(3, .int (Int32.ofInt (mi_sA σ 24 a))), (0, .ref 0), (1, .int (Int32.ofInt a)), (2, .int (Int32.ofInt 1))]) (st' := []) rfl rfl rfl ?_
  refine mi_wp_p (pc' := 46) (st' := [.ref 0]) rfl rfl rfl ?_
  refine ty_s_gr S rfl rfl rfl (List.mem_of_getElem? (i := 3) rfl) ?_
  refine mi_wp_p (pc' := 50) (st' := [.int (Int32.ofInt (mi_sA σ 24 a)), .ref 9]) rfl rfl rfl ?_
  refine ty_s_ci rfl rfl rfl rfl rfl rfl (mi_cal_v2 (np := 1) (args := [.ref 9, .int (Int32.ofInt (mi_sA σ 24 a))]) (rest := []) rfl rfl rfl rfl rfl (Nat.le_of_ble_eq_true rfl) rfl rfl (Nat.le_of_ble_eq_true rfl) (ty_rcS S (List.mem_of_getElem? (i := 5) rfl))) (Nat.le_of_ble_eq_true rfl) S H ?_
  intro x hh σ1 S f P1
  replace fr := mi_Fm_tr fr f
  exact ty_s_ret S fr rfl rfl rfl (mi_ret_i rfl) ⟨_, rfl, P1⟩
theorem tl_measure1 {X : mi_X} {σ : mi_Sg} {d : Nat} {a : Int} {P : Int → mi_Sg → Prop} (a0 : 0 ≤ a) (a1 : a < mi_sF σ 17 14) (u : mi_sF σ 17 14 ≤ 24) (H : ty_Ci X (d + 1) mi_M139 [(0, .ref 9), (1, .int (Int32.ofInt (mi_sA σ 24 a)))] σ P) : ty_Ci X (d + 3) mi_M10 [(0, .ref 0), (1, .int (Int32.ofInt a)), (2, .int (Int32.ofInt 1))] σ (fun x σ' => P x σ') := by
  intro h S
  have fr := mi_Fm_rf h
  refine mi_wp_p (pc' := 1) (st' := [.ref 0]) rfl rfl rfl ?_
  refine ty_s_gr S rfl rfl rfl (List.mem_of_getElem? (i := 4) rfl) ?_
  refine mi_wp_p (pc' := 5) (st' := [.int (Int32.ofInt a), .ref 17]) rfl rfl rfl ?_
  refine ty_s_ci rfl rfl rfl rfl rfl rfl (mi_cal_v2 (np := 1) (args := [.ref 17, .int (Int32.ofInt a)]) (rest := []) rfl rfl rfl rfl rfl (Nat.le_of_ble_eq_true rfl) rfl rfl (Nat.le_of_ble_eq_true rfl) (ty_rcS S (List.mem_of_getElem? (i := 10) rfl))) (Nat.le_of_ble_eq_true rfl) S (kn_hasDefinition a0 a1 u) ?_
  intro x hh σu S f P
  obtain ⟨e1, e2⟩ := P
  rw [e2] at S
  rw [e1]
  clear e1 e2
  replace fr := mi_Fm_tr fr f
  refine mi_s_if1 (t := 20) rfl rfl rfl (by unfold mi_R; omega) (fun hc_ => absurd (show (1 : Int) = 0 from hc_) (by omega)) (fun _ => ?_)
  refine mi_wp_p (pc' := 12) (st' := [.int (Int32.ofInt 1)]) rfl rfl rfl ?_
  refine mi_s_if1 (t := 20) rfl rfl rfl (by unfold mi_R; omega) (fun hc_ => absurd (show (1 : Int) < 0 from hc_) (by omega)) (fun _ => ?_)
  refine mi_wp_p (pc' := 16) (st' := [.int (Int32.ofInt 1)]) rfl rfl rfl ?_
  refine mi_wp_p (pc' := 17) (st' := [.int (Int32.ofInt 3), .int (Int32.ofInt 1)]) rfl rfl rfl ?_
  refine mi_s_if2 (t := 30) rfl rfl rfl (by unfold mi_R; omega) (by unfold mi_R; omega) (fun _ => ?_) (fun hc_ => absurd (show (1 : Int) < 3 by omega) hc_)
  refine mi_wp_p (pc' := 31) (st' := [.ref 0]) rfl rfl rfl ?_
  refine mi_wp_p (pc' := 32) (st' := [.int (Int32.ofInt a), .ref 0]) rfl rfl rfl ?_
  refine mi_wp_p (pc' := 33) (st' := [.int (Int32.ofInt 1), .int (Int32.ofInt a), .ref 0]) rfl rfl rfl ?_
  refine ty_s_ci rfl rfl rfl rfl rfl rfl (mi_cal_v2 (np := 2) (args := [.ref 0, .int (Int32.ofInt a), .int (Int32.ofInt 1)]) (rest := []) rfl rfl rfl rfl rfl (Nat.le_of_ble_eq_true rfl) rfl rfl (Nat.le_of_ble_eq_true rfl) (ty_rcS S (List.mem_of_getElem? (i := 0) rfl))) (Nat.le_of_ble_eq_true rfl) S (tl_measured1 a0 a1 u H) ?_
  intro x hh σ1 S f P1
  replace fr := mi_Fm_tr fr f
  exact ty_s_ret S fr rfl rfl rfl (mi_ret_i rfl) ⟨_, rfl, P1⟩
theorem tl_measured2 {X : mi_X} {σ : mi_Sg} {d : Nat} {a : Int} {P : Int → mi_Sg → Prop} (a0 : 0 ≤ a) (a1 : a < mi_sF σ 17 14) (u : mi_sF σ 17 14 ≤ 24) (H : ty_Ci X (d + 1) mi_M144 [(0, .ref 9), (1, .int (Int32.ofInt (mi_sA σ 24 a)))] σ P) : ty_Ci X (d + 2) mi_M11 [(0, .ref 0), (1, .int (Int32.ofInt a)), (2, .int (Int32.ofInt 2))] σ (fun x σ' => P x σ') := by
  intro h S
  have fr := mi_Fm_rf h
  refine mi_wp_p (pc' := 1) (st' := [.ref 0]) rfl rfl rfl ?_
  refine ty_s_gr S rfl rfl rfl (List.mem_of_getElem? (i := 4) rfl) ?_
  refine mi_wp_p (pc' := 5) (st' := [.int (Int32.ofInt a), .ref 17]) rfl rfl rfl ?_
  refine ty_s_ci rfl rfl rfl rfl rfl rfl (mi_cal_v2 (np := 1) (args := [.ref 17, .int (Int32.ofInt a)]) (rest := []) rfl rfl rfl rfl rfl (Nat.le_of_ble_eq_true rfl) rfl rfl (Nat.le_of_ble_eq_true rfl) (ty_rcS S (List.mem_of_getElem? (i := 10) rfl))) (Nat.le_of_ble_eq_true rfl) S (kn_typeOfDefinition a0 a1 u) ?_
  intro x hh σu S f P
  obtain ⟨e1, e2⟩ := P
  rw [e2] at S
  rw [e1]
  clear e1 e2
  replace fr := mi_Fm_tr fr f
  refine mi_wp_p (pc' := 9) (l' := [(3, .int (Int32.ofInt (mi_sA σ 24 a))), (0, .ref 0), (1, .int (Int32.ofInt a)), (2, .int (Int32.ofInt 2))]) (st' := []) rfl rfl rfl ?_
  refine mi_wp_p (pc' := 10) (st' := [.int (Int32.ofInt 2)]) rfl rfl rfl ?_
  refine mi_wp_p (pc' := 54) (l' := [(3, .int (Int32.ofInt (mi_sA σ 24 a))), (0, .ref 0), (1, .int (Int32.ofInt a)), (2, .int (Int32.ofInt 2))]) (st' := []) rfl rfl rfl ?_
  refine mi_wp_p (pc' := 55) (st' := [.ref 0]) rfl rfl rfl ?_
  refine ty_s_gr S rfl rfl rfl (List.mem_of_getElem? (i := 3) rfl) ?_
  refine mi_wp_p (pc' := 59) (st' := [.int (Int32.ofInt (mi_sA σ 24 a)), .ref 9]) rfl rfl rfl ?_
  refine ty_s_ci rfl rfl rfl rfl rfl rfl (mi_cal_v2 (np := 1) (args := [.ref 9, .int (Int32.ofInt (mi_sA σ 24 a))]) (rest := []) rfl rfl rfl rfl rfl (Nat.le_of_ble_eq_true rfl) rfl rfl (Nat.le_of_ble_eq_true rfl) (ty_rcS S (List.mem_of_getElem? (i := 5) rfl))) (Nat.le_of_ble_eq_true rfl) S H ?_
  intro x hh σ1 S f P1
  replace fr := mi_Fm_tr fr f
  exact ty_s_ret S fr rfl rfl rfl (mi_ret_i rfl) ⟨_, rfl, P1⟩
theorem tl_measure2 {X : mi_X} {σ : mi_Sg} {d : Nat} {a : Int} {P : Int → mi_Sg → Prop} (a0 : 0 ≤ a) (a1 : a < mi_sF σ 17 14) (u : mi_sF σ 17 14 ≤ 24) (H : ty_Ci X (d + 1) mi_M144 [(0, .ref 9), (1, .int (Int32.ofInt (mi_sA σ 24 a)))] σ P) : ty_Ci X (d + 3) mi_M10 [(0, .ref 0), (1, .int (Int32.ofInt a)), (2, .int (Int32.ofInt 2))] σ (fun x σ' => P x σ') := by
  intro h S
  have fr := mi_Fm_rf h
  refine mi_wp_p (pc' := 1) (st' := [.ref 0]) rfl rfl rfl ?_
  refine ty_s_gr S rfl rfl rfl (List.mem_of_getElem? (i := 4) rfl) ?_
  refine mi_wp_p (pc' := 5) (st' := [.int (Int32.ofInt a), .ref 17]) rfl rfl rfl ?_
  refine ty_s_ci rfl rfl rfl rfl rfl rfl (mi_cal_v2 (np := 1) (args := [.ref 17, .int (Int32.ofInt a)]) (rest := []) rfl rfl rfl rfl rfl (Nat.le_of_ble_eq_true rfl) rfl rfl (Nat.le_of_ble_eq_true rfl) (ty_rcS S (List.mem_of_getElem? (i := 10) rfl))) (Nat.le_of_ble_eq_true rfl) S (kn_hasDefinition a0 a1 u) ?_
  intro x hh σu S f P
  obtain ⟨e1, e2⟩ := P
  rw [e2] at S
  rw [e1]
  clear e1 e2
  replace fr := mi_Fm_tr fr f
  refine mi_s_if1 (t := 20) rfl rfl rfl (by unfold mi_R; omega) (fun hc_ => absurd (show (1 : Int) = 0 from hc_) (by omega)) (fun _ => ?_)
  refine mi_wp_p (pc' := 12) (st' := [.int (Int32.ofInt 2)]) rfl rfl rfl ?_
  refine mi_s_if1 (t := 20) rfl rfl rfl (by unfold mi_R; omega) (fun hc_ => absurd (show (2 : Int) < 0 from hc_) (by omega)) (fun _ => ?_)
  refine mi_wp_p (pc' := 16) (st' := [.int (Int32.ofInt 2)]) rfl rfl rfl ?_
  refine mi_wp_p (pc' := 17) (st' := [.int (Int32.ofInt 3), .int (Int32.ofInt 2)]) rfl rfl rfl ?_
  refine mi_s_if2 (t := 30) rfl rfl rfl (by unfold mi_R; omega) (by unfold mi_R; omega) (fun _ => ?_) (fun hc_ => absurd (show (2 : Int) < 3 by omega) hc_)
  refine mi_wp_p (pc' := 31) (st' := [.ref 0]) rfl rfl rfl ?_
  refine mi_wp_p (pc' := 32) (st' := [.int (Int32.ofInt a), .ref 0]) rfl rfl rfl ?_
  refine mi_wp_p (pc' := 33) (st' := [.int (Int32.ofInt 2), .int (Int32.ofInt a), .ref 0]) rfl rfl rfl ?_
  refine ty_s_ci rfl rfl rfl rfl rfl rfl (mi_cal_v2 (np := 2) (args := [.ref 0, .int (Int32.ofInt a), .int (Int32.ofInt 2)]) (rest := []) rfl rfl rfl rfl rfl (Nat.le_of_ble_eq_true rfl) rfl rfl (Nat.le_of_ble_eq_true rfl) (ty_rcS S (List.mem_of_getElem? (i := 0) rfl))) (Nat.le_of_ble_eq_true rfl) S (tl_measured2 a0 a1 u H) ?_
  intro x hh σ1 S f P1
  replace fr := mi_Fm_tr fr f
  exact ty_s_ret S fr rfl rfl rfl (mi_ret_i rfl) ⟨_, rfl, P1⟩
theorem tl_write {X : mi_X} {σ : mi_Sg} {d : Nat} {a : Int} {P : Int → mi_Sg → Prop} (a0 : 0 ≤ a) (a1 : a < mi_sF σ 17 14) (u : mi_sF σ 17 14 ≤ 24) (H : ty_Ci X (d + 1) mi_M159 [(0, .ref 52), (1, .int (Int32.ofInt (mi_sA σ 24 a)))] σ (fun x σ' => x = 1 ∧ P (mi_sF σ' 52 5) σ')) : ty_Ci X (d + 2) mi_M15 [(0, .ref 0), (1, .int (Int32.ofInt a))] σ (fun x σ' => P x σ') := by
  intro h S
  have fr := mi_Fm_rf h
  refine mi_wp_p (pc' := 1) (st' := [.ref 0]) rfl rfl rfl ?_
  refine ty_s_gr S rfl rfl rfl (List.mem_of_getElem? (i := 4) rfl) ?_
  refine mi_wp_p (pc' := 5) (st' := [.int (Int32.ofInt a), .ref 17]) rfl rfl rfl ?_
  refine ty_s_ci rfl rfl rfl rfl rfl rfl (mi_cal_v2 (np := 1) (args := [.ref 17, .int (Int32.ofInt a)]) (rest := []) rfl rfl rfl rfl rfl (Nat.le_of_ble_eq_true rfl) rfl rfl (Nat.le_of_ble_eq_true rfl) (ty_rcS S (List.mem_of_getElem? (i := 10) rfl))) (Nat.le_of_ble_eq_true rfl) S (kn_hasDefinition a0 a1 u) ?_
  intro x hh σu S f P
  obtain ⟨e1, e2⟩ := P
  rw [e2] at S
  rw [e1]
  clear e1 e2
  replace fr := mi_Fm_tr fr f
  refine mi_s_if1 (t := 21) rfl rfl rfl (by unfold mi_R; omega) (fun _ => ?_) (fun hc_ => absurd (show (1 : Int) ≠ 0 by omega) hc_)
  refine mi_wp_p (pc' := 22) (st' := [.ref 0]) rfl rfl rfl ?_
  refine ty_s_gr S rfl rfl rfl (List.mem_of_getElem? (i := 9) rfl) ?_
  refine mi_wp_p (pc' := 26) (st' := [.ref 0, .ref 52]) rfl rfl rfl ?_
  refine ty_s_gr S rfl rfl rfl (List.mem_of_getElem? (i := 4) rfl) ?_
  refine mi_wp_p (pc' := 30) (st' := [.int (Int32.ofInt a), .ref 17, .ref 52]) rfl rfl rfl ?_
  refine ty_s_ci rfl rfl rfl rfl rfl rfl (mi_cal_v2 (np := 1) (args := [.ref 17, .int (Int32.ofInt a)]) (rest := [.ref 52]) rfl rfl rfl rfl rfl (Nat.le_of_ble_eq_true rfl) rfl rfl (Nat.le_of_ble_eq_true rfl) (ty_rcS S (List.mem_of_getElem? (i := 10) rfl))) (Nat.le_of_ble_eq_true rfl) S (kn_typeOfDefinition a0 a1 u) ?_
  intro x hh σu S f P
  obtain ⟨e1, e2⟩ := P
  rw [e2] at S
  rw [e1]
  clear e1 e2
  replace fr := mi_Fm_tr fr f
  refine ty_s_ci rfl rfl rfl rfl rfl rfl (mi_cal_v2 (np := 1) (args := [.ref 52, .int (Int32.ofInt (mi_sA σ 24 a))]) (rest := []) rfl rfl rfl rfl rfl (Nat.le_of_ble_eq_true rfl) rfl rfl (Nat.le_of_ble_eq_true rfl) (ty_rcS S (List.mem_of_getElem? (i := 27) rfl))) (Nat.le_of_ble_eq_true rfl) S H ?_
  intro x hh σw S f P
  obtain ⟨e1, hP⟩ := P
  rw [e1]
  clear e1
  replace fr := mi_Fm_tr fr f
  refine mi_s_if1 (t := 49) rfl rfl rfl (by unfold mi_R; omega) (fun _ => ?_) (fun hc_ => absurd (show (1 : Int) ≠ 0 by omega) hc_)
  refine mi_wp_p (pc' := 50) (st' := [.ref 0]) rfl rfl rfl ?_
  refine ty_s_gr S rfl rfl rfl (List.mem_of_getElem? (i := 9) rfl) ?_
  refine ty_s_ci rfl rfl rfl rfl rfl rfl (mi_cal_v2 (np := 0) (args := [.ref 52]) (rest := []) rfl rfl rfl rfl rfl (Nat.le_of_ble_eq_true rfl) rfl rfl (Nat.le_of_ble_eq_true rfl) (ty_rcS S (List.mem_of_getElem? (i := 27) rfl))) (Nat.le_of_ble_eq_true rfl) S wr_size ?_
  intro x hh σu S f P
  obtain ⟨e1, e2⟩ := P
  rw [e2] at S
  rw [e1]
  clear e1 e2
  replace fr := mi_Fm_tr fr f
  exact ty_s_ret S fr rfl rfl rfl (mi_ret_i rfl) ⟨_, rfl, hP⟩
theorem tl_forget {X : mi_X} {σ : mi_Sg} {d : Nat} (hb : mi_sF σ 17 11 = 13) : ty_Cv X (d + 2) mi_M9 [(0, .ref 0)] σ (fun σ' => sg_Af [25] [] (mi_uF (mi_uF (mi_uF (mi_uF (mi_uF (mi_uF σ 26 7 0) 9 8 13) 9 9 13) 17 12 3) 17 13 2) 17 14 0) σ' ∧ ∀ j, 0 ≤ j → j < 576 → mi_sA σ' 25 j = 0) := by
  intro h S
  have fr := mi_Fm_rf h
  refine mi_wp_p (pc' := 1) (st' := [.ref 0]) rfl rfl rfl ?_
  refine ty_s_gr S rfl rfl rfl (List.mem_of_getElem? (i := 5) rfl) ?_
  refine ty_s_cv rfl rfl rfl rfl rfl rfl (mi_cal_v2 (np := 0) (args := [.ref 26]) (rest := []) rfl rfl rfl rfl rfl (Nat.le_of_ble_eq_true rfl) rfl rfl (Nat.le_of_ble_eq_true rfl) (ty_rcS S (List.mem_of_getElem? (i := 16) rfl))) (Nat.le_of_ble_eq_true rfl) S st26_clear ?_
  intro hh σ1 S f P
  subst P
  replace fr := mi_Fm_tr fr f
  refine mi_wp_p (pc' := 8) (st' := [.ref 0]) rfl rfl rfl ?_
  refine ty_s_gr S rfl rfl rfl (List.mem_of_getElem? (i := 4) rfl) ?_
  refine ty_s_cv rfl rfl rfl rfl rfl rfl (mi_cal_v2 (np := 0) (args := [.ref 17]) (rest := []) rfl rfl rfl rfl rfl (Nat.le_of_ble_eq_true rfl) rfl rfl (Nat.le_of_ble_eq_true rfl) (ty_rcS S (List.mem_of_getElem? (i := 10) rfl))) (Nat.le_of_ble_eq_true rfl) S (kn_forgetItems (σ := mi_uF σ 26 7 0) hb) ?_
  intro hh σ2 S f P
  replace fr := mi_Fm_tr fr f
  exact ty_s_ret S fr rfl rfl rfl rfl ⟨rfl, P⟩
