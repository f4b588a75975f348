/-! ===== Writer: parts, marks, nodes (printed by wip/gen/p_wnode.py) ===== -/
theorem fm_ii {X : mi_X} {d : Nat} {σ : mi_Sg} {n : Int} (h0 : 0 ≤ n) (h1 : n < 26) : ty_Ci X d mi_M178 [(0, .int (Int32.ofInt n)), (1, .int (Int32.ofInt 26))] σ (fun x σ' => x = n ∧ σ' = σ) := by
  obtain ⟨k, rfl⟩ := Int.eq_ofNat_of_zero_le h0
  have h2 : k < 26 := by omega
  match k, h2 with
  | 0, _ => exact ty_of_run (n := 30) (fun h => rfl) ⟨_, rfl, rfl, rfl⟩
  | 1, _ => exact ty_of_run (n := 30) (fun h => rfl) ⟨_, rfl, rfl, rfl⟩
  | 2, _ => exact ty_of_run (n := 30) (fun h => rfl) ⟨_, rfl, rfl, rfl⟩
  | 3, _ => exact ty_of_run (n := 30) (fun h => rfl) ⟨_, rfl, rfl, rfl⟩
  | 4, _ => exact ty_of_run (n := 30) (fun h => rfl) ⟨_, rfl, rfl, rfl⟩
  | 5, _ => exact ty_of_run (n := 30) (fun h => rfl) ⟨_, rfl, rfl, rfl⟩
  | 6, _ => exact ty_of_run (n := 30) (fun h => rfl) ⟨_, rfl, rfl, rfl⟩
  | 7, _ => exact ty_of_run (n := 30) (fun h => rfl) ⟨_, rfl, rfl, rfl⟩
  | 8, _ => exact ty_of_run (n := 30) (fun h => rfl) ⟨_, rfl, rfl, rfl⟩
  | 9, _ => exact ty_of_run (n := 30) (fun h => rfl) ⟨_, rfl, rfl, rfl⟩
  | 10, _ => exact ty_of_run (n := 30) (fun h => rfl) ⟨_, rfl, rfl, rfl⟩
  | 11, _ => exact ty_of_run (n := 30) (fun h => rfl) ⟨_, rfl, rfl, rfl⟩
  | 12, _ => exact ty_of_run (n := 30) (fun h => rfl) ⟨_, rfl, rfl, rfl⟩
  | 13, _ => exact ty_of_run (n := 30) (fun h => rfl) ⟨_, rfl, rfl, rfl⟩
  | 14, _ => exact ty_of_run (n := 30) (fun h => rfl) ⟨_, rfl, rfl, rfl⟩
  | 15, _ => exact ty_of_run (n := 30) (fun h => rfl) ⟨_, rfl, rfl, rfl⟩
  | 16, _ => exact ty_of_run (n := 30) (fun h => rfl) ⟨_, rfl, rfl, rfl⟩
  | 17, _ => exact ty_of_run (n := 30) (fun h => rfl) ⟨_, rfl, rfl, rfl⟩
  | 18, _ => exact ty_of_run (n := 30) (fun h => rfl) ⟨_, rfl, rfl, rfl⟩
  | 19, _ => exact ty_of_run (n := 30) (fun h => rfl) ⟨_, rfl, rfl, rfl⟩
  | 20, _ => exact ty_of_run (n := 30) (fun h => rfl) ⟨_, rfl, rfl, rfl⟩
  | 21, _ => exact ty_of_run (n := 30) (fun h => rfl) ⟨_, rfl, rfl, rfl⟩
  | 22, _ => exact ty_of_run (n := 30) (fun h => rfl) ⟨_, rfl, rfl, rfl⟩
  | 23, _ => exact ty_of_run (n := 30) (fun h => rfl) ⟨_, rfl, rfl, rfl⟩
  | 24, _ => exact ty_of_run (n := 30) (fun h => rfl) ⟨_, rfl, rfl, rfl⟩
  | 25, _ => exact ty_of_run (n := 30) (fun h => rfl) ⟨_, rfl, rfl, rfl⟩
theorem wr_part0 {X : mi_X} {σ : mi_Sg} {d : Nat} {nd w : Int} (n0 : 0 < nd) (n1 : nd < mi_sF σ 9 8) (nr : mi_sA σ 12 nd = nd) (w0 : 0 ≤ w ∧ w < 3) (hk : 0 ≤ ty_k σ nd w ∧ ty_k σ nd w < mi_sF σ 9 8) (s0 : 0 ≤ mi_sF σ 52 4) (s1 : mi_sF σ 52 4 + 3 ≤ 1024) (H : ty_Ci X (d + 2) mi_M153 [(0, .ref 52), (1, .int (Int32.ofInt nd)), (2, .int (Int32.ofInt w))] σ (fun x σ' => x = 0 ∧ σ' = σ)) : ty_Cv X (d + 3) mi_M155 [(0, .ref 52), (1, .int (Int32.ofInt nd)), (2, .int (Int32.ofInt w))] σ (fun σ' => σ' = (wlt σ (ty_K' σ nd w))) := by
  intro h S
  have fr := mi_Fm_rf h
  refine mi_wp_p (pc' := 1) (st' := [.ref 52]) rfl rfl rfl ?_
  refine mi_wp_p (pc' := 2) (st' := [.int (Int32.ofInt nd), .ref 52]) rfl rfl rfl ?_
  refine mi_wp_p (pc' := 3) (st' := [.int (Int32.ofInt w), .int (Int32.ofInt nd), .ref 52]) rfl rfl rfl ?_
  refine ty_s_ci rfl rfl rfl rfl rfl rfl (mi_cal_v2 (np := 2) (args := [.ref 52, .int (Int32.ofInt nd), .int (Int32.ofInt w)]) (rest := []) rfl rfl rfl rfl rfl (Nat.le_of_ble_eq_true rfl) rfl rfl (Nat.le_of_ble_eq_true rfl) (ty_rcS S (List.mem_of_getElem? (i := 27) rfl))) (Nat.le_of_ble_eq_true rfl) S H ?_
  intro x hh σu S f P
  obtain ⟨e1, e2⟩ := P
  rw [e2] at S
  rw [e1]
  clear e1 e2
  replace fr := mi_Fm_tr fr f
  refine mi_wp_p (pc' := 7) (l' := [(3, .int (Int32.ofInt 0)), (0, .ref 52), (1, .int (Int32.ofInt nd)), (2, .int (Int32.ofInt w))]) (st' := []) rfl rfl rfl ?_
  refine mi_wp_p (pc' := 8) (st' := [.int (Int32.ofInt 0)]) rfl rfl rfl ?_
  refine mi_s_if1 (t := 17) rfl rfl rfl (by unfold mi_R; omega) (fun _ => ?_) (fun hc_ => absurd (show (0 : Int) = 0 by omega) hc_)
  refine mi_wp_p (pc' := 18) (st' := [.ref 52]) rfl rfl rfl ?_
  refine mi_wp_p (pc' := 19) (st' := [.ref 52, .ref 52]) rfl rfl rfl ?_
  refine ty_s_gr S rfl rfl rfl (List.mem_of_getElem? (i := 64) rfl) ?_
  refine mi_wp_p (pc' := 23) (st' := [.int (Int32.ofInt nd), .ref 9, .ref 52]) rfl rfl rfl ?_
  refine mi_wp_p (pc' := 24) (st' := [.int (Int32.ofInt w), .int (Int32.ofInt nd), .ref 9, .ref 52]) rfl rfl rfl ?_
  refine ty_s_ci rfl rfl rfl rfl rfl rfl (mi_cal_v2 (np := 2) (args := [.ref 9, .int (Int32.ofInt nd), .int (Int32.ofInt w)]) (rest := [.ref 52]) rfl rfl rfl rfl rfl (Nat.le_of_ble_eq_true rfl) rfl rfl (Nat.le_of_ble_eq_true rfl) (ty_rcS S (List.mem_of_getElem? (i := 5) rfl))) (Nat.le_of_ble_eq_true rfl) S (ty_kidOf (σ := σ) n0 n1 w0 (by show 0 ≤ ty_k σ (mi_sA σ 12 nd) w ∧ ty_k σ (mi_sA σ 12 nd) w < mi_sF σ 9 8; rw [nr]; exact hk)) ?_
  intro x hh σu S f P
  obtain ⟨g1, g2⟩ := P
  rw [g2] at S
  replace g1 : x = mi_sA σ 12 (ty_k σ (mi_sA σ 12 nd) w) := g1
  rw [nr] at g1
  rw [show x = (ty_K' σ nd w) from g1]
  clear g1 g2
  replace fr := mi_Fm_tr fr f
  refine ty_s_cv rfl rfl rfl rfl rfl rfl (mi_cal_v2 (np := 1) (args := [.ref 52, .int (Int32.ofInt (ty_K' σ nd w))]) (rest := []) rfl rfl rfl rfl rfl (Nat.le_of_ble_eq_true rfl) rfl rfl (Nat.le_of_ble_eq_true rfl) (ty_rcS S (List.mem_of_getElem? (i := 27) rfl))) (Nat.le_of_ble_eq_true rfl) S (wr_later (σ := σ) (by show 0 ≤ mi_sF σ 52 4; omega) (by show mi_sF σ 52 4 < 1024; omega)) ?_
  intro hh σ2 S f P
  subst P
  replace fr := mi_Fm_tr fr f
  refine mi_wp_p (pc' := 31) (st' := [.int (Int32.ofInt 0)]) rfl rfl rfl ?_
  refine mi_s_if1 (t := 40) rfl rfl rfl (by unfold mi_R; omega) (fun _ => ?_) (fun hc_ => absurd (show (0 : Int) = 0 by omega) hc_)
  exact ty_s_ret S fr rfl rfl rfl rfl ⟨rfl, rfl⟩
theorem wr_part1 {X : mi_X} {σ : mi_Sg} {d : Nat} {nd w : Int} (n0 : 0 < nd) (n1 : nd < mi_sF σ 9 8) (nr : mi_sA σ 12 nd = nd) (w0 : 0 ≤ w ∧ w < 3) (hk : 0 ≤ ty_k σ nd w ∧ ty_k σ nd w < mi_sF σ 9 8) (s0 : 0 ≤ mi_sF σ 52 4) (s1 : mi_sF σ 52 4 + 3 ≤ 1024) (H : ty_Ci X (d + 2) mi_M153 [(0, .ref 52), (1, .int (Int32.ofInt nd)), (2, .int (Int32.ofInt w))] σ (fun x σ' => x = 1 ∧ σ' = σ)) : ty_Cv X (d + 3) mi_M155 [(0, .ref 52), (1, .int (Int32.ofInt nd)), (2, .int (Int32.ofInt w))] σ (fun σ' => σ' = (wlt (wlt (wlt σ (-41)) (ty_K' σ nd w)) (-40))) := by
  intro h S
  have fr := mi_Fm_rf h
  refine mi_wp_p (pc' := 1) (st' := [.ref 52]) rfl rfl rfl ?_
  refine mi_wp_p (pc' := 2) (st' := [.int (Int32.ofInt nd), .ref 52]) rfl rfl rfl ?_
  refine mi_wp_p (pc' := 3) (st' := [.int (Int32.ofInt w), .int (Int32.ofInt nd), .ref 52]) rfl rfl rfl ?_
  refine ty_s_ci rfl rfl rfl rfl rfl rfl (mi_cal_v2 (np := 2) (args := [.ref 52, .int (Int32.ofInt nd), .int (Int32.ofInt w)]) (rest := []) rfl rfl rfl rfl rfl (Nat.le_of_ble_eq_true rfl) rfl rfl (Nat.le_of_ble_eq_true rfl) (ty_rcS S (List.mem_of_getElem? (i := 27) rfl))) (Nat.le_of_ble_eq_true rfl) S H ?_
  intro x hh σu S f P
  obtain ⟨e1, e2⟩ := P
  rw [e2] at S
  rw [e1]
  clear e1 e2
  replace fr := mi_Fm_tr fr f
  refine mi_wp_p (pc' := 7) (l' := [(3, .int (Int32.ofInt 1)), (0, .ref 52), (1, .int (Int32.ofInt nd)), (2, .int (Int32.ofInt w))]) (st' := []) rfl rfl rfl ?_
  refine mi_wp_p (pc' := 8) (st' := [.int (Int32.ofInt 1)]) rfl rfl rfl ?_
  refine mi_s_if1 (t := 17) rfl rfl rfl (by unfold mi_R; omega) (fun hc_ => absurd (show (1 : Int) = 0 from hc_) (by omega)) (fun _ => ?_)
  refine mi_wp_p (pc' := 12) (st' := [.ref 52]) rfl rfl rfl ?_
  refine mi_s_k (pc' := 14) (e := (-41)) rfl rfl rfl (by decide +kernel) ?_
  refine ty_s_cv rfl rfl rfl rfl rfl rfl (mi_cal_v2 (np := 1) (args := [.ref 52, .int (Int32.ofInt (-41))]) (rest := []) rfl rfl rfl rfl rfl (Nat.le_of_ble_eq_true rfl) rfl rfl (Nat.le_of_ble_eq_true rfl) (ty_rcS S (List.mem_of_getElem? (i := 27) rfl))) (Nat.le_of_ble_eq_true rfl) S (wr_later (σ := σ) (by show 0 ≤ mi_sF σ 52 4; omega) (by show mi_sF σ 52 4 < 1024; omega)) ?_
  intro hh σ2 S f P
  subst P
  replace fr := mi_Fm_tr fr f
  refine mi_wp_p (pc' := 18) (st' := [.ref 52]) rfl rfl rfl ?_
  refine mi_wp_p (pc' := 19) (st' := [.ref 52, .ref 52]) rfl rfl rfl ?_
  refine ty_s_gr S rfl rfl rfl (List.mem_of_getElem? (i := 64) rfl) ?_
  refine mi_wp_p (pc' := 23) (st' := [.int (Int32.ofInt nd), .ref 9, .ref 52]) rfl rfl rfl ?_
  refine mi_wp_p (pc' := 24) (st' := [.int (Int32.ofInt w), .int (Int32.ofInt nd), .ref 9, .ref 52]) rfl rfl rfl ?_
  refine ty_s_ci rfl rfl rfl rfl rfl rfl (mi_cal_v2 (np := 2) (args := [.ref 9, .int (Int32.ofInt nd), .int (Int32.ofInt w)]) (rest := [.ref 52]) rfl rfl rfl rfl rfl (Nat.le_of_ble_eq_true rfl) rfl rfl (Nat.le_of_ble_eq_true rfl) (ty_rcS S (List.mem_of_getElem? (i := 5) rfl))) (Nat.le_of_ble_eq_true rfl) S (ty_kidOf (σ := (wlt σ (-41))) n0 n1 w0 (by show 0 ≤ ty_k σ (mi_sA σ 12 nd) w ∧ ty_k σ (mi_sA σ 12 nd) w < mi_sF σ 9 8; rw [nr]; exact hk)) ?_
  intro x hh σu S f P
  obtain ⟨g1, g2⟩ := P
  rw [g2] at S
  replace g1 : x = mi_sA σ 12 (ty_k σ (mi_sA σ 12 nd) w) := g1
  rw [nr] at g1
  rw [show x = (ty_K' σ nd w) from g1]
  clear g1 g2
  replace fr := mi_Fm_tr fr f
  refine ty_s_cv rfl rfl rfl rfl rfl rfl (mi_cal_v2 (np := 1) (args := [.ref 52, .int (Int32.ofInt (ty_K' σ nd w))]) (rest := []) rfl rfl rfl rfl rfl (Nat.le_of_ble_eq_true rfl) rfl rfl (Nat.le_of_ble_eq_true rfl) (ty_rcS S (List.mem_of_getElem? (i := 27) rfl))) (Nat.le_of_ble_eq_true rfl) S (wr_later (σ := (wlt σ (-41))) (by show 0 ≤ mi_sF σ 52 4 + 1; omega) (by show mi_sF σ 52 4 + 1 < 1024; omega)) ?_
  intro hh σ2 S f P
  subst P
  replace fr := mi_Fm_tr fr f
  refine mi_wp_p (pc' := 31) (st' := [.int (Int32.ofInt 1)]) rfl rfl rfl ?_
  refine mi_s_if1 (t := 40) rfl rfl rfl (by unfold mi_R; omega) (fun hc_ => absurd (show (1 : Int) = 0 from hc_) (by omega)) (fun _ => ?_)
  refine mi_wp_p (pc' := 35) (st' := [.ref 52]) rfl rfl rfl ?_
  refine mi_s_k (pc' := 37) (e := (-40)) rfl rfl rfl (by decide +kernel) ?_
  refine ty_s_cv rfl rfl rfl rfl rfl rfl (mi_cal_v2 (np := 1) (args := [.ref 52, .int (Int32.ofInt (-40))]) (rest := []) rfl rfl rfl rfl rfl (Nat.le_of_ble_eq_true rfl) rfl rfl (Nat.le_of_ble_eq_true rfl) (ty_rcS S (List.mem_of_getElem? (i := 27) rfl))) (Nat.le_of_ble_eq_true rfl) S (wr_later (σ := (wlt (wlt σ (-41)) (ty_K' σ nd w))) (by show 0 ≤ mi_sF σ 52 4 + 1 + 1; omega) (by show mi_sF σ 52 4 + 1 + 1 < 1024; omega)) ?_
  intro hh σ2 S f P
  subst P
  replace fr := mi_Fm_tr fr f
  exact ty_s_ret S fr rfl rfl rfl rfl ⟨rfl, rfl⟩
theorem wr_mark1 {X : mi_X} {σ : mi_Sg} {d : Nat} {nd v : Int} (n0 : 0 < nd) (n1 : nd < mi_sF σ 9 8) (nr : mi_sA σ 12 nd = nd) (s0 : 0 ≤ mi_sF σ 52 5) (s1 : mi_sF σ 52 5 + 2 ≤ 400) (hv : mi_sA σ 14 nd = v) (v0 : 0 < v) (v1 : v ≤ 26) : ty_Cv X (d + 2) mi_M161 [(0, .ref 52), (1, .int (Int32.ofInt nd))] σ (fun σ' => σ' = wpb (wpb σ 39) (97 + (v - 1))) := by
  intro h S
  have fr := mi_Fm_rf h
  have hu := ty_H_u S
  refine mi_wp_p (pc' := 1) (st' := [.ref 52]) rfl rfl rfl ?_
  refine ty_s_gr S rfl rfl rfl (List.mem_of_getElem? (i := 64) rfl) ?_
  refine mi_wp_p (pc' := 5) (st' := [.int (Int32.ofInt nd), .ref 9]) rfl rfl rfl ?_
  refine ty_s_ci rfl rfl rfl rfl rfl rfl (mi_cal_v2 (np := 1) (args := [.ref 9, .int (Int32.ofInt nd)]) (rest := []) rfl rfl rfl rfl rfl (Nat.le_of_ble_eq_true rfl) rfl rfl (Nat.le_of_ble_eq_true rfl) (ty_rcS S (List.mem_of_getElem? (i := 5) rfl))) (Nat.le_of_ble_eq_true rfl) S (ty_noteOf (σ := σ) (by omega) n1) ?_
  intro x hh σu S f P
  obtain ⟨g1, g2⟩ := P
  rw [g2] at S
  replace g1 : x = v := (by rw [← hv, show x = mi_sA σ 14 (mi_sA σ 12 nd) from g1, nr])
  rw [g1]
  clear g1 g2
  replace fr := mi_Fm_tr fr f
  refine mi_s_if1 (t := 33) rfl rfl rfl (by unfold mi_R; omega) (fun _ => ?_) (fun hc_ => absurd (show v ≠ 0 by omega) hc_)
  refine mi_wp_p (pc' := 34) (st' := [.ref 52]) rfl rfl rfl ?_
  refine mi_s_k (pc' := 36) (e := 39) rfl rfl rfl (by decide +kernel) ?_
  refine ty_s_cv rfl rfl rfl rfl rfl rfl (mi_cal_v2 (np := 1) (args := [.ref 52, .int (Int32.ofInt 39)]) (rest := []) rfl rfl rfl rfl rfl (Nat.le_of_ble_eq_true rfl) rfl rfl (Nat.le_of_ble_eq_true rfl) (ty_rcS S (List.mem_of_getElem? (i := 27) rfl))) (Nat.le_of_ble_eq_true rfl) S (wr_putByte (σ := σ) (by show 0 ≤ mi_sF σ 52 5; omega) (by show mi_sF σ 52 5 < 400; omega) (by omega) (by omega)) ?_
  intro hh σ2 S f P
  subst P
  replace fr := mi_Fm_tr fr f
  refine mi_wp_p (pc' := 40) (st' := [.ref 52]) rfl rfl rfl ?_
  refine mi_s_k (pc' := 42) (e := 97) rfl rfl rfl (by decide +kernel) ?_
  refine mi_wp_p (pc' := 43) (st' := [.ref 52, .int (Int32.ofInt 97), .ref 52]) rfl rfl rfl ?_
  refine ty_s_gr S rfl rfl rfl (List.mem_of_getElem? (i := 64) rfl) ?_
  refine mi_wp_p (pc' := 47) (st' := [.int (Int32.ofInt nd), .ref 9, .int (Int32.ofInt 97), .ref 52]) rfl rfl rfl ?_
  refine ty_s_ci rfl rfl rfl rfl rfl rfl (mi_cal_v2 (np := 1) (args := [.ref 9, .int (Int32.ofInt nd)]) (rest := [.int (Int32.ofInt 97), .ref 52]) rfl rfl rfl rfl rfl (Nat.le_of_ble_eq_true rfl) rfl rfl (Nat.le_of_ble_eq_true rfl) (ty_rcS S (List.mem_of_getElem? (i := 5) rfl))) (Nat.le_of_ble_eq_true rfl) S (ty_noteOf (σ := (wpb σ 39)) (by omega) n1) ?_
  intro x hh σu S f P
  obtain ⟨g1, g2⟩ := P
  rw [g2] at S
  replace g1 : x = v := (by rw [← hv, show x = mi_sA σ 14 (mi_sA σ 12 nd) from g1, nr])
  rw [g1]
  clear g1 g2
  replace fr := mi_Fm_tr fr f
  refine mi_wp_p (pc' := 51) (st' := [.int (Int32.ofInt 1), .int (Int32.ofInt v), .int (Int32.ofInt 97), .ref 52]) rfl rfl rfl ?_
  refine mi_s_sub rfl rfl ?_
  refine mi_s_k (pc' := 54) (e := 26) rfl rfl rfl (by decide +kernel) ?_
  refine ty_s_ci rfl rfl rfl rfl rfl rfl (mi_cal_s2 (np := 2) (args := [.int (Int32.ofInt (v - 1)), .int (Int32.ofInt 26)]) (rest := [.int (Int32.ofInt 97), .ref 52]) rfl rfl rfl (Or.inl rfl) rfl (Nat.le_of_ble_eq_true rfl) rfl rfl (Nat.le_of_ble_eq_true rfl)) (Nat.le_of_ble_eq_true rfl) S (fm_ii (by omega) (by omega)) ?_
  intro x hh σu S f P
  obtain ⟨e1, e2⟩ := P
  rw [e2] at S
  rw [e1]
  clear e1 e2
  replace fr := mi_Fm_tr fr f
  refine mi_s_add rfl rfl ?_
  refine ty_s_cv rfl rfl rfl rfl rfl rfl (mi_cal_v2 (np := 1) (args := [.ref 52, .int (Int32.ofInt (97 + (v - 1)))]) (rest := []) rfl rfl rfl rfl rfl (Nat.le_of_ble_eq_true rfl) rfl rfl (Nat.le_of_ble_eq_true rfl) (ty_rcS S (List.mem_of_getElem? (i := 27) rfl))) (Nat.le_of_ble_eq_true rfl) S (wr_putByte (σ := (wpb σ 39)) (by show 0 ≤ mi_sF σ 52 5 + 1; omega) (by show mi_sF σ 52 5 + 1 < 400; omega) (by omega) (by omega)) ?_
  intro hh σ2 S f P
  subst P
  replace fr := mi_Fm_tr fr f
  exact ty_s_ret S fr rfl rfl rfl rfl ⟨rfl, rfl⟩
theorem wr_mark0 {X : mi_X} {σ : mi_Sg} {d : Nat} {nd : Int} (n0 : 0 < nd) (n1 : nd < mi_sF σ 9 8) (nr : mi_sA σ 12 nd = nd) (s0 : 0 ≤ mi_sF σ 52 5) (s1 : mi_sF σ 52 5 + 2 ≤ 400) (hv : mi_sA σ 14 nd = 0) (v0 : 0 ≤ mi_sF σ 52 6) (v1 : mi_sF σ 52 6 < 26) : ty_Cv X (d + 2) mi_M161 [(0, .ref 52), (1, .int (Int32.ofInt nd))] σ (fun σ' => σ' = wpb (wpb (mi_uA (mi_uF σ 52 6 (mi_sF σ 52 6 + 1)) 14 nd (mi_sF σ 52 6 + 1)) 39) (97 + (mi_sF σ 52 6 + 1 - 1))) := by
  intro h S
  have fr := mi_Fm_rf h
  have hu := ty_H_u S
  refine mi_wp_p (pc' := 1) (st' := [.ref 52]) rfl rfl rfl ?_
  refine ty_s_gr S rfl rfl rfl (List.mem_of_getElem? (i := 64) rfl) ?_
  refine mi_wp_p (pc' := 5) (st' := [.int (Int32.ofInt nd), .ref 9]) rfl rfl rfl ?_
  refine ty_s_ci rfl rfl rfl rfl rfl rfl (mi_cal_v2 (np := 1) (args := [.ref 9, .int (Int32.ofInt nd)]) (rest := []) rfl rfl rfl rfl rfl (Nat.le_of_ble_eq_true rfl) rfl rfl (Nat.le_of_ble_eq_true rfl) (ty_rcS S (List.mem_of_getElem? (i := 5) rfl))) (Nat.le_of_ble_eq_true rfl) S (ty_noteOf (σ := σ) (by omega) n1) ?_
  intro x hh σu S f P
  obtain ⟨g1, g2⟩ := P
  rw [g2] at S
  replace g1 : x = 0 := (by rw [show x = mi_sA σ 14 (mi_sA σ 12 nd) from g1, nr, hv])
  rw [g1]
  clear g1 g2
  replace fr := mi_Fm_tr fr f
  refine mi_s_if1 (t := 33) rfl rfl rfl (by unfold mi_R; omega) (fun hc_ => absurd (show (0 : Int) ≠ 0 from hc_) (by omega)) (fun _ => ?_)
  refine mi_wp_p (pc' := 12) (st' := [.ref 52]) rfl rfl rfl ?_
  refine mi_wp_p (pc' := 13) (st' := [.ref 52, .ref 52]) rfl rfl rfl ?_
  refine ty_s_gf (x := mi_sF σ 52 6) S rfl rfl rfl (List.mem_of_getElem? (i := 29) rfl) rfl ?_
  refine mi_wp_p (pc' := 17) (st' := [.int (Int32.ofInt 1), .int (Int32.ofInt (mi_sF σ 52 6)), .ref 52]) rfl rfl rfl ?_
  refine mi_s_add rfl rfl ?_
  refine ty_s_pf S rfl rfl rfl (List.mem_of_getElem? (i := 29) rfl) (by decide) mi_fit_int (Or.inl rfl) ?_
  intro h1 S f
  replace fr := mi_Fm_tr fr f
  refine mi_wp_p (pc' := 22) (st' := [.ref 52]) rfl rfl rfl ?_
  refine ty_s_gr S rfl rfl rfl (List.mem_of_getElem? (i := 64) rfl) ?_
  refine mi_wp_p (pc' := 26) (st' := [.int (Int32.ofInt nd), .ref 9]) rfl rfl rfl ?_
  refine mi_wp_p (pc' := 27) (st' := [.ref 52, .int (Int32.ofInt nd), .ref 9]) rfl rfl rfl ?_
  refine ty_s_gf (x := (mi_sF σ 52 6) + 1) S rfl rfl rfl (List.mem_of_getElem? (i := 29) rfl) rfl ?_
  refine ty_s_cv rfl rfl rfl rfl rfl rfl (mi_cal_v2 (np := 2) (args := [.ref 9, .int (Int32.ofInt nd), .int (Int32.ofInt ((mi_sF σ 52 6) + 1))]) (rest := []) rfl rfl rfl rfl rfl (Nat.le_of_ble_eq_true rfl) rfl rfl (Nat.le_of_ble_eq_true rfl) (ty_rcS S (List.mem_of_getElem? (i := 5) rfl))) (Nat.le_of_ble_eq_true rfl) S (ty_setNote (σ := (mi_uF σ 52 6 ((mi_sF σ 52 6) + 1))) (by omega) n1) ?_
  intro hh σ2 S f P
  replace P : σ2 = mi_uA (mi_uF σ 52 6 ((mi_sF σ 52 6) + 1)) 14 (mi_sA σ 12 nd) (mi_sF σ 52 6 + 1) := P
  rw [nr] at P
  subst P
  replace fr := mi_Fm_tr fr f
  refine mi_wp_p (pc' := 34) (st' := [.ref 52]) rfl rfl rfl ?_
  refine mi_s_k (pc' := 36) (e := 39) rfl rfl rfl (by decide +kernel) ?_
  refine ty_s_cv rfl rfl rfl rfl rfl rfl (mi_cal_v2 (np := 1) (args := [.ref 52, .int (Int32.ofInt 39)]) (rest := []) rfl rfl rfl rfl rfl (Nat.le_of_ble_eq_true rfl) rfl rfl (Nat.le_of_ble_eq_true rfl) (ty_rcS S (List.mem_of_getElem? (i := 27) rfl))) (Nat.le_of_ble_eq_true rfl) S (wr_putByte (σ := (mi_uA (mi_uF σ 52 6 (mi_sF σ 52 6 + 1)) 14 nd (mi_sF σ 52 6 + 1))) (by show 0 ≤ mi_sF σ 52 5; omega) (by show mi_sF σ 52 5 < 400; omega) (by omega) (by omega)) ?_
  intro hh σ2 S f P
  subst P
  replace fr := mi_Fm_tr fr f
  refine mi_wp_p (pc' := 40) (st' := [.ref 52]) rfl rfl rfl ?_
  refine mi_s_k (pc' := 42) (e := 97) rfl rfl rfl (by decide +kernel) ?_
  refine mi_wp_p (pc' := 43) (st' := [.ref 52, .int (Int32.ofInt 97), .ref 52]) rfl rfl rfl ?_
  refine ty_s_gr S rfl rfl rfl (List.mem_of_getElem? (i := 64) rfl) ?_
  refine mi_wp_p (pc' := 47) (st' := [.int (Int32.ofInt nd), .ref 9, .int (Int32.ofInt 97), .ref 52]) rfl rfl rfl ?_
  refine ty_s_ci rfl rfl rfl rfl rfl rfl (mi_cal_v2 (np := 1) (args := [.ref 9, .int (Int32.ofInt nd)]) (rest := [.int (Int32.ofInt 97), .ref 52]) rfl rfl rfl rfl rfl (Nat.le_of_ble_eq_true rfl) rfl rfl (Nat.le_of_ble_eq_true rfl) (ty_rcS S (List.mem_of_getElem? (i := 5) rfl))) (Nat.le_of_ble_eq_true rfl) S (ty_noteOf (σ := (wpb (mi_uA (mi_uF σ 52 6 (mi_sF σ 52 6 + 1)) 14 nd (mi_sF σ 52 6 + 1)) 39)) (by omega) n1) ?_
  intro x hh σu S f P
  obtain ⟨g1, g2⟩ := P
  rw [g2] at S
  replace g1 : x = mi_sF σ 52 6 + 1 := (by rw [show x = mi_sA (mi_uA (mi_uF σ 52 6 (mi_sF σ 52 6 + 1)) 14 nd (mi_sF σ 52 6 + 1)) 14 (mi_sA σ 12 nd) from g1, nr, mi_AA, if_pos ⟨rfl, rfl⟩])
  rw [g1]
  clear g1 g2
  replace fr := mi_Fm_tr fr f
  refine mi_wp_p (pc' := 51) (st' := [.int (Int32.ofInt 1), .int (Int32.ofInt (mi_sF σ 52 6 + 1)), .int (Int32.ofInt 97), .ref 52]) rfl rfl rfl ?_
  refine mi_s_sub rfl rfl ?_
  refine mi_s_k (pc' := 54) (e := 26) rfl rfl rfl (by decide +kernel) ?_
  refine ty_s_ci rfl rfl rfl rfl rfl rfl (mi_cal_s2 (np := 2) (args := [.int (Int32.ofInt ((mi_sF σ 52 6 + 1) - 1)), .int (Int32.ofInt 26)]) (rest := [.int (Int32.ofInt 97), .ref 52]) rfl rfl rfl (Or.inl rfl) rfl (Nat.le_of_ble_eq_true rfl) rfl rfl (Nat.le_of_ble_eq_true rfl)) (Nat.le_of_ble_eq_true rfl) S (fm_ii (by omega) (by omega)) ?_
  intro x hh σu S f P
  obtain ⟨e1, e2⟩ := P
  rw [e2] at S
  rw [e1]
  clear e1 e2
  replace fr := mi_Fm_tr fr f
  refine mi_s_add rfl rfl ?_
  refine ty_s_cv rfl rfl rfl rfl rfl rfl (mi_cal_v2 (np := 1) (args := [.ref 52, .int (Int32.ofInt (97 + ((mi_sF σ 52 6 + 1) - 1)))]) (rest := []) rfl rfl rfl rfl rfl (Nat.le_of_ble_eq_true rfl) rfl rfl (Nat.le_of_ble_eq_true rfl) (ty_rcS S (List.mem_of_getElem? (i := 27) rfl))) (Nat.le_of_ble_eq_true rfl) S (wr_putByte (σ := (wpb (mi_uA (mi_uF σ 52 6 (mi_sF σ 52 6 + 1)) 14 nd (mi_sF σ 52 6 + 1)) 39)) (by show 0 ≤ mi_sF σ 52 5 + 1; omega) (by show mi_sF σ 52 5 + 1 < 400; omega) (by omega) (by omega)) ?_
  intro hh σ2 S f P
  subst P
  replace fr := mi_Fm_tr fr f
  exact ty_s_ret S fr rfl rfl rfl rfl ⟨rfl, rfl⟩
theorem wr_nint {X : mi_X} {σ : mi_Sg} {d : Nat} {nd : Int} (n0 : 0 < nd) (n1 : nd < mi_sF σ 9 8) (nr : mi_sA σ 12 nd = nd) (ht : mi_sA σ 10 nd = 1) (s0 : 0 ≤ mi_sF σ 52 5) (s1 : mi_sF σ 52 5 + 3 ≤ 400) : ty_Cv X (d + 5) mi_M163 [(0, .ref 52), (1, .int (Int32.ofInt nd))] σ (fun σ' => σ' = wpb (wpb (wpb σ 105) 110) 116) := by
  intro h S
  have fr := mi_Fm_rf h
  refine mi_wp_p (pc' := 1) (st' := [.ref 52]) rfl rfl rfl ?_
  refine ty_s_gr S rfl rfl rfl (List.mem_of_getElem? (i := 64) rfl) ?_
  refine mi_wp_p (pc' := 5) (st' := [.int (Int32.ofInt nd), .ref 9]) rfl rfl rfl ?_
  refine ty_s_ci rfl rfl rfl rfl rfl rfl (mi_cal_v2 (np := 1) (args := [.ref 9, .int (Int32.ofInt nd)]) (rest := []) rfl rfl rfl rfl rfl (Nat.le_of_ble_eq_true rfl) rfl rfl (Nat.le_of_ble_eq_true rfl) (ty_rcS S (List.mem_of_getElem? (i := 5) rfl))) (Nat.le_of_ble_eq_true rfl) S (ty_tagOf (by omega) n1) ?_
  intro x hh σu S f P
  obtain ⟨g1, g2⟩ := P
  rw [g2] at S
  rw [g1, nr, ht]
  clear g1 g2
  replace fr := mi_Fm_tr fr f
  refine mi_wp_p (pc' := 9) (l' := [(2, .int (Int32.ofInt 1)), (0, .ref 52), (1, .int (Int32.ofInt nd))]) (st' := []) rfl rfl rfl ?_
  refine mi_wp_p (pc' := 10) (st' := [.int (Int32.ofInt 1)]) rfl rfl rfl ?_
  refine mi_wp_p (pc' := 48) (l' := [(2, .int (Int32.ofInt 1)), (0, .ref 52), (1, .int (Int32.ofInt nd))]) (st' := []) rfl rfl rfl ?_
  refine mi_wp_p (pc' := 49) (st' := [.ref 52]) rfl rfl rfl ?_
  refine mi_s_lds (i := 9) rfl rfl rfl rfl rfl ?_
  refine ty_s_cv rfl rfl rfl rfl rfl rfl (mi_cal_v2 (np := 1) (args := [.ref 52, .retAddr 36]) (rest := []) rfl rfl rfl rfl rfl (Nat.le_of_ble_eq_true rfl) rfl rfl (Nat.le_of_ble_eq_true rfl) (ty_rcS S (List.mem_of_getElem? (i := 27) rfl))) (Nat.le_of_ble_eq_true rfl) S (wr_putText9 s0 s1) ?_
  intro hh σ2 S f P
  subst P
  replace fr := mi_Fm_tr fr f
  refine mi_wp_p (pc' := 125) rfl rfl rfl ?_
  exact ty_s_ret S fr rfl rfl rfl rfl ⟨rfl, rfl⟩
theorem wr_nbool {X : mi_X} {σ : mi_Sg} {d : Nat} {nd : Int} (n0 : 0 < nd) (n1 : nd < mi_sF σ 9 8) (nr : mi_sA σ 12 nd = nd) (ht : mi_sA σ 10 nd = 2) (s0 : 0 ≤ mi_sF σ 52 5) (s1 : mi_sF σ 52 5 + 4 ≤ 400) : ty_Cv X (d + 5) mi_M163 [(0, .ref 52), (1, .int (Int32.ofInt nd))] σ (fun σ' => σ' = wpb (wpb (wpb (wpb σ 98) 111) 111) 108) := by
  intro h S
  have fr := mi_Fm_rf h
  refine mi_wp_p (pc' := 1) (st' := [.ref 52]) rfl rfl rfl ?_
  refine ty_s_gr S rfl rfl rfl (List.mem_of_getElem? (i := 64) rfl) ?_
  refine mi_wp_p (pc' := 5) (st' := [.int (Int32.ofInt nd), .ref 9]) rfl rfl rfl ?_
  refine ty_s_ci rfl rfl rfl rfl rfl rfl (mi_cal_v2 (np := 1) (args := [.ref 9, .int (Int32.ofInt nd)]) (rest := []) rfl rfl rfl rfl rfl (Nat.le_of_ble_eq_true rfl) rfl rfl (Nat.le_of_ble_eq_true rfl) (ty_rcS S (List.mem_of_getElem? (i := 5) rfl))) (Nat.le_of_ble_eq_true rfl) S (ty_tagOf (by omega) n1) ?_
  intro x hh σu S f P
  obtain ⟨g1, g2⟩ := P
  rw [g2] at S
  rw [g1, nr, ht]
  clear g1 g2
  replace fr := mi_Fm_tr fr f
  refine mi_wp_p (pc' := 9) (l' := [(2, .int (Int32.ofInt 2)), (0, .ref 52), (1, .int (Int32.ofInt nd))]) (st' := []) rfl rfl rfl ?_
  refine mi_wp_p (pc' := 10) (st' := [.int (Int32.ofInt 2)]) rfl rfl rfl ?_
  refine mi_wp_p (pc' := 57) (l' := [(2, .int (Int32.ofInt 2)), (0, .ref 52), (1, .int (Int32.ofInt nd))]) (st' := []) rfl rfl rfl ?_
  refine mi_wp_p (pc' := 58) (st' := [.ref 52]) rfl rfl rfl ?_
  refine mi_s_lds (i := 10) rfl rfl rfl rfl rfl ?_
  refine ty_s_cv rfl rfl rfl rfl rfl rfl (mi_cal_v2 (np := 1) (args := [.ref 52, .retAddr 40]) (rest := []) rfl rfl rfl rfl rfl (Nat.le_of_ble_eq_true rfl) rfl rfl (Nat.le_of_ble_eq_true rfl) (ty_rcS S (List.mem_of_getElem? (i := 27) rfl))) (Nat.le_of_ble_eq_true rfl) S (wr_putText10 s0 s1) ?_
  intro hh σ2 S f P
  subst P
  replace fr := mi_Fm_tr fr f
  refine mi_wp_p (pc' := 125) rfl rfl rfl ?_
  exact ty_s_ret S fr rfl rfl rfl rfl ⟨rfl, rfl⟩
theorem wr_nmark3 {X : mi_X} {σ : mi_Sg} {d : Nat} {nd : Int} {P : mi_Sg → Prop} (n0 : 0 < nd) (n1 : nd < mi_sF σ 9 8) (nr : mi_sA σ 12 nd = nd) (ht : mi_sA σ 10 nd = 3) (H : ty_Cv X (d + 4) mi_M161 [(0, .ref 52), (1, .int (Int32.ofInt nd))] σ P) : ty_Cv X (d + 5) mi_M163 [(0, .ref 52), (1, .int (Int32.ofInt nd))] σ (fun σ' => P σ') := by
  intro h S
  have fr := mi_Fm_rf h
  refine mi_wp_p (pc' := 1) (st' := [.ref 52]) rfl rfl rfl ?_
  refine ty_s_gr S rfl rfl rfl (List.mem_of_getElem? (i := 64) rfl) ?_
  refine mi_wp_p (pc' := 5) (st' := [.int (Int32.ofInt nd), .ref 9]) rfl rfl rfl ?_
  refine ty_s_ci rfl rfl rfl rfl rfl rfl (mi_cal_v2 (np := 1) (args := [.ref 9, .int (Int32.ofInt nd)]) (rest := []) rfl rfl rfl rfl rfl (Nat.le_of_ble_eq_true rfl) rfl rfl (Nat.le_of_ble_eq_true rfl) (ty_rcS S (List.mem_of_getElem? (i := 5) rfl))) (Nat.le_of_ble_eq_true rfl) S (ty_tagOf (by omega) n1) ?_
  intro x hh σu S f P
  obtain ⟨g1, g2⟩ := P
  rw [g2] at S
  rw [g1, nr, ht]
  clear g1 g2
  replace fr := mi_Fm_tr fr f
  refine mi_wp_p (pc' := 9) (l' := [(2, .int (Int32.ofInt 3)), (0, .ref 52), (1, .int (Int32.ofInt nd))]) (st' := []) rfl rfl rfl ?_
  refine mi_wp_p (pc' := 10) (st' := [.int (Int32.ofInt 3)]) rfl rfl rfl ?_
  refine mi_wp_p (pc' := 66) (l' := [(2, .int (Int32.ofInt 3)), (0, .ref 52), (1, .int (Int32.ofInt nd))]) (st' := []) rfl rfl rfl ?_
  refine mi_wp_p (pc' := 67) (st' := [.ref 52]) rfl rfl rfl ?_
  refine mi_wp_p (pc' := 68) (st' := [.int (Int32.ofInt nd), .ref 52]) rfl rfl rfl ?_
  refine ty_s_cv rfl rfl rfl rfl rfl rfl (mi_cal_v2 (np := 1) (args := [.ref 52, .int (Int32.ofInt nd)]) (rest := []) rfl rfl rfl rfl rfl (Nat.le_of_ble_eq_true rfl) rfl rfl (Nat.le_of_ble_eq_true rfl) (ty_rcS S (List.mem_of_getElem? (i := 27) rfl))) (Nat.le_of_ble_eq_true rfl) S H ?_
  intro hh σ2 S f P1
  replace fr := mi_Fm_tr fr f
  refine mi_wp_p (pc' := 125) rfl rfl rfl ?_
  exact ty_s_ret S fr rfl rfl rfl rfl ⟨rfl, P1⟩
theorem wr_nmark4 {X : mi_X} {σ : mi_Sg} {d : Nat} {nd : Int} {P : mi_Sg → Prop} (n0 : 0 < nd) (n1 : nd < mi_sF σ 9 8) (nr : mi_sA σ 12 nd = nd) (ht : mi_sA σ 10 nd = 4) (H : ty_Cv X (d + 4) mi_M161 [(0, .ref 52), (1, .int (Int32.ofInt nd))] σ P) : ty_Cv X (d + 5) mi_M163 [(0, .ref 52), (1, .int (Int32.ofInt nd))] σ (fun σ' => P σ') := by
  intro h S
  have fr := mi_Fm_rf h
  refine mi_wp_p (pc' := 1) (st' := [.ref 52]) rfl rfl rfl ?_
  refine ty_s_gr S rfl rfl rfl (List.mem_of_getElem? (i := 64) rfl) ?_
  refine mi_wp_p (pc' := 5) (st' := [.int (Int32.ofInt nd), .ref 9]) rfl rfl rfl ?_
  refine ty_s_ci rfl rfl rfl rfl rfl rfl (mi_cal_v2 (np := 1) (args := [.ref 9, .int (Int32.ofInt nd)]) (rest := []) rfl rfl rfl rfl rfl (Nat.le_of_ble_eq_true rfl) rfl rfl (Nat.le_of_ble_eq_true rfl) (ty_rcS S (List.mem_of_getElem? (i := 5) rfl))) (Nat.le_of_ble_eq_true rfl) S (ty_tagOf (by omega) n1) ?_
  intro x hh σu S f P
  obtain ⟨g1, g2⟩ := P
  rw [g2] at S
  rw [g1, nr, ht]
  clear g1 g2
  replace fr := mi_Fm_tr fr f
  refine mi_wp_p (pc' := 9) (l' := [(2, .int (Int32.ofInt 4)), (0, .ref 52), (1, .int (Int32.ofInt nd))]) (st' := []) rfl rfl rfl ?_
  refine mi_wp_p (pc' := 10) (st' := [.int (Int32.ofInt 4)]) rfl rfl rfl ?_
  refine mi_wp_p (pc' := 66) (l' := [(2, .int (Int32.ofInt 4)), (0, .ref 52), (1, .int (Int32.ofInt nd))]) (st' := []) rfl rfl rfl ?_
  refine mi_wp_p (pc' := 67) (st' := [.ref 52]) rfl rfl rfl ?_
  refine mi_wp_p (pc' := 68) (st' := [.int (Int32.ofInt nd), .ref 52]) rfl rfl rfl ?_
  refine ty_s_cv rfl rfl rfl rfl rfl rfl (mi_cal_v2 (np := 1) (args := [.ref 52, .int (Int32.ofInt nd)]) (rest := []) rfl rfl rfl rfl rfl (Nat.le_of_ble_eq_true rfl) rfl rfl (Nat.le_of_ble_eq_true rfl) (ty_rcS S (List.mem_of_getElem? (i := 27) rfl))) (Nat.le_of_ble_eq_true rfl) S H ?_
  intro hh σ2 S f P1
  replace fr := mi_Fm_tr fr f
  refine mi_wp_p (pc' := 125) rfl rfl rfl ?_
  exact ty_s_ret S fr rfl rfl rfl rfl ⟨rfl, P1⟩
theorem wr_n5 {X : mi_X} {σ : mi_Sg} {d : Nat} {nd : Int} {P : mi_Sg → Prop} (n0 : 0 < nd) (n1 : nd < mi_sF σ 9 8) (nr : mi_sA σ 12 nd = nd) (ht : mi_sA σ 10 nd = 5) (H : ty_Cv X (d + 4) mi_M155 [(0, .ref 52), (1, .int (Int32.ofInt nd)), (2, .int (Int32.ofInt 1))] σ (fun σ1 => (0 ≤ mi_sF σ1 52 4 ∧ mi_sF σ1 52 4 + 4 ≤ 1024) ∧ ty_Cv X (d + 4) mi_M155 [(0, .ref 52), (1, .int (Int32.ofInt nd)), (2, .int (Int32.ofInt 0))] (wlt (wlt (wlt σ1 (-32)) (-42)) (-32)) P)) : ty_Cv X (d + 5) mi_M163 [(0, .ref 52), (1, .int (Int32.ofInt nd))] σ (fun σ' => P σ') := by
  intro h S
  have fr := mi_Fm_rf h
  refine mi_wp_p (pc' := 1) (st' := [.ref 52]) rfl rfl rfl ?_
  refine ty_s_gr S rfl rfl rfl (List.mem_of_getElem? (i := 64) rfl) ?_
  refine mi_wp_p (pc' := 5) (st' := [.int (Int32.ofInt nd), .ref 9]) rfl rfl rfl ?_
  refine ty_s_ci rfl rfl rfl rfl rfl rfl (mi_cal_v2 (np := 1) (args := [.ref 9, .int (Int32.ofInt nd)]) (rest := []) rfl rfl rfl rfl rfl (Nat.le_of_ble_eq_true rfl) rfl rfl (Nat.le_of_ble_eq_true rfl) (ty_rcS S (List.mem_of_getElem? (i := 5) rfl))) (Nat.le_of_ble_eq_true rfl) S (ty_tagOf (by omega) n1) ?_
  intro x hh σu S f P
  obtain ⟨g1, g2⟩ := P
  rw [g2] at S
  rw [g1, nr, ht]
  clear g1 g2
  replace fr := mi_Fm_tr fr f
  refine mi_wp_p (pc' := 9) (l' := [(2, .int (Int32.ofInt 5)), (0, .ref 52), (1, .int (Int32.ofInt nd))]) (st' := []) rfl rfl rfl ?_
  refine mi_wp_p (pc' := 10) (st' := [.int (Int32.ofInt 5)]) rfl rfl rfl ?_
  refine mi_wp_p (pc' := 74) (l' := [(2, .int (Int32.ofInt 5)), (0, .ref 52), (1, .int (Int32.ofInt nd))]) (st' := []) rfl rfl rfl ?_
  refine mi_wp_p (pc' := 75) (st' := [.ref 52]) rfl rfl rfl ?_
  refine mi_wp_p (pc' := 76) (st' := [.int (Int32.ofInt nd), .ref 52]) rfl rfl rfl ?_
  refine mi_wp_p (pc' := 77) (st' := [.int (Int32.ofInt 1), .int (Int32.ofInt nd), .ref 52]) rfl rfl rfl ?_
  refine ty_s_cv rfl rfl rfl rfl rfl rfl (mi_cal_v2 (np := 2) (args := [.ref 52, .int (Int32.ofInt nd), .int (Int32.ofInt 1)]) (rest := []) rfl rfl rfl rfl rfl (Nat.le_of_ble_eq_true rfl) rfl rfl (Nat.le_of_ble_eq_true rfl) (ty_rcS S (List.mem_of_getElem? (i := 27) rfl))) (Nat.le_of_ble_eq_true rfl) S H ?_
  intro hh σ1 S f P1
  obtain ⟨⟨s0, s1⟩, H2⟩ := P1
  replace fr := mi_Fm_tr fr f
  refine mi_wp_p (pc' := 81) (st' := [.ref 52]) rfl rfl rfl ?_
  refine mi_s_lds (i := 11) rfl rfl rfl rfl rfl ?_
  refine ty_s_cv rfl rfl rfl rfl rfl rfl (mi_cal_v2 (np := 1) (args := [.ref 52, .retAddr 44]) (rest := []) rfl rfl rfl rfl rfl (Nat.le_of_ble_eq_true rfl) rfl rfl (Nat.le_of_ble_eq_true rfl) (ty_rcS S (List.mem_of_getElem? (i := 27) rfl))) (Nat.le_of_ble_eq_true rfl) S (wr_laterText11 s0 (by omega)) ?_
  intro hh σ2 S f P
  subst P
  replace fr := mi_Fm_tr fr f
  refine mi_wp_p (pc' := 87) (st' := [.ref 52]) rfl rfl rfl ?_
  refine mi_wp_p (pc' := 88) (st' := [.int (Int32.ofInt nd), .ref 52]) rfl rfl rfl ?_
  refine mi_wp_p (pc' := 89) (st' := [.int (Int32.ofInt 0), .int (Int32.ofInt nd), .ref 52]) rfl rfl rfl ?_
  refine ty_s_cv rfl rfl rfl rfl rfl rfl (mi_cal_v2 (np := 2) (args := [.ref 52, .int (Int32.ofInt nd), .int (Int32.ofInt 0)]) (rest := []) rfl rfl rfl rfl rfl (Nat.le_of_ble_eq_true rfl) rfl rfl (Nat.le_of_ble_eq_true rfl) (ty_rcS S (List.mem_of_getElem? (i := 27) rfl))) (Nat.le_of_ble_eq_true rfl) S H2 ?_
  intro hh σ3 S f P1
  replace fr := mi_Fm_tr fr f
  refine mi_wp_p (pc' := 125) rfl rfl rfl ?_
  exact ty_s_ret S fr rfl rfl rfl rfl ⟨rfl, P1⟩
theorem wr_n6 {X : mi_X} {σ : mi_Sg} {d : Nat} {nd : Int} {P : mi_Sg → Prop} (n0 : 0 < nd) (n1 : nd < mi_sF σ 9 8) (nr : mi_sA σ 12 nd = nd) (ht : mi_sA σ 10 nd = 6) (H : ty_Cv X (d + 4) mi_M155 [(0, .ref 52), (1, .int (Int32.ofInt nd)), (2, .int (Int32.ofInt 1))] σ (fun σ1 => (0 ≤ mi_sF σ1 52 4 ∧ mi_sF σ1 52 4 + 4 ≤ 1024) ∧ ty_Cv X (d + 4) mi_M155 [(0, .ref 52), (1, .int (Int32.ofInt nd)), (2, .int (Int32.ofInt 0))] (wlt (wlt (wlt (wlt σ1 (-32)) (-62)) (-45)) (-32)) P)) : ty_Cv X (d + 5) mi_M163 [(0, .ref 52), (1, .int (Int32.ofInt nd))] σ (fun σ' => P σ') := by
  intro h S
  have fr := mi_Fm_rf h
  refine mi_wp_p (pc' := 1) (st' := [.ref 52]) rfl rfl rfl ?_
  refine ty_s_gr S rfl rfl rfl (List.mem_of_getElem? (i := 64) rfl) ?_
  refine mi_wp_p (pc' := 5) (st' := [.int (Int32.ofInt nd), .ref 9]) rfl rfl rfl ?_
  refine ty_s_ci rfl rfl rfl rfl rfl rfl (mi_cal_v2 (np := 1) (args := [.ref 9, .int (Int32.ofInt nd)]) (rest := []) rfl rfl rfl rfl rfl (Nat.le_of_ble_eq_true rfl) rfl rfl (Nat.le_of_ble_eq_true rfl) (ty_rcS S (List.mem_of_getElem? (i := 5) rfl))) (Nat.le_of_ble_eq_true rfl) S (ty_tagOf (by omega) n1) ?_
  intro x hh σu S f P
  obtain ⟨g1, g2⟩ := P
  rw [g2] at S
  rw [g1, nr, ht]
  clear g1 g2
  replace fr := mi_Fm_tr fr f
  refine mi_wp_p (pc' := 9) (l' := [(2, .int (Int32.ofInt 6)), (0, .ref 52), (1, .int (Int32.ofInt nd))]) (st' := []) rfl rfl rfl ?_
  refine mi_wp_p (pc' := 10) (st' := [.int (Int32.ofInt 6)]) rfl rfl rfl ?_
  refine mi_wp_p (pc' := 95) (l' := [(2, .int (Int32.ofInt 6)), (0, .ref 52), (1, .int (Int32.ofInt nd))]) (st' := []) rfl rfl rfl ?_
  refine mi_wp_p (pc' := 96) (st' := [.ref 52]) rfl rfl rfl ?_
  refine mi_wp_p (pc' := 97) (st' := [.int (Int32.ofInt nd), .ref 52]) rfl rfl rfl ?_
  refine mi_wp_p (pc' := 98) (st' := [.int (Int32.ofInt 1), .int (Int32.ofInt nd), .ref 52]) rfl rfl rfl ?_
  refine ty_s_cv rfl rfl rfl rfl rfl rfl (mi_cal_v2 (np := 2) (args := [.ref 52, .int (Int32.ofInt nd), .int (Int32.ofInt 1)]) (rest := []) rfl rfl rfl rfl rfl (Nat.le_of_ble_eq_true rfl) rfl rfl (Nat.le_of_ble_eq_true rfl) (ty_rcS S (List.mem_of_getElem? (i := 27) rfl))) (Nat.le_of_ble_eq_true rfl) S H ?_
  intro hh σ1 S f P1
  obtain ⟨⟨s0, s1⟩, H2⟩ := P1
  replace fr := mi_Fm_tr fr f
  refine mi_wp_p (pc' := 102) (st' := [.ref 52]) rfl rfl rfl ?_
  refine mi_s_lds (i := 12) rfl rfl rfl rfl rfl ?_
  refine ty_s_cv rfl rfl rfl rfl rfl rfl (mi_cal_v2 (np := 1) (args := [.ref 52, .retAddr 48]) (rest := []) rfl rfl rfl rfl rfl (Nat.le_of_ble_eq_true rfl) rfl rfl (Nat.le_of_ble_eq_true rfl) (ty_rcS S (List.mem_of_getElem? (i := 27) rfl))) (Nat.le_of_ble_eq_true rfl) S (wr_laterText12 s0 (by omega)) ?_
  intro hh σ2 S f P
  subst P
  replace fr := mi_Fm_tr fr f
  refine mi_wp_p (pc' := 108) (st' := [.ref 52]) rfl rfl rfl ?_
  refine mi_wp_p (pc' := 109) (st' := [.int (Int32.ofInt nd), .ref 52]) rfl rfl rfl ?_
  refine mi_wp_p (pc' := 110) (st' := [.int (Int32.ofInt 0), .int (Int32.ofInt nd), .ref 52]) rfl rfl rfl ?_
  refine ty_s_cv rfl rfl rfl rfl rfl rfl (mi_cal_v2 (np := 2) (args := [.ref 52, .int (Int32.ofInt nd), .int (Int32.ofInt 0)]) (rest := []) rfl rfl rfl rfl rfl (Nat.le_of_ble_eq_true rfl) rfl rfl (Nat.le_of_ble_eq_true rfl) (ty_rcS S (List.mem_of_getElem? (i := 27) rfl))) (Nat.le_of_ble_eq_true rfl) S H2 ?_
  intro hh σ3 S f P1
  replace fr := mi_Fm_tr fr f
  refine mi_wp_p (pc' := 125) rfl rfl rfl ?_
  exact ty_s_ret S fr rfl rfl rfl rfl ⟨rfl, P1⟩
