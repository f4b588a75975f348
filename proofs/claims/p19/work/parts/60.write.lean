/-! ===== Writer's small methods (printed by wip/gen/p_write.py) ===== -/
/-- a byte more on the paper; a thing more that is pending -/
def wpb (σ : mi_Sg) (b : Int) : mi_Sg := mi_uF (mi_uA σ 53 (mi_sF σ 52 5) b) 52 5 (mi_sF σ 52 5 + 1)
def wlt (σ : mi_Sg) (x : Int) : mi_Sg := mi_uF (mi_uA σ 54 (mi_sF σ 52 4) x) 52 4 (mi_sF σ 52 4 + 1)
theorem wr_putByte {X : mi_X} {d : Nat} {σ : mi_Sg} {b : Int} (s0 : 0 ≤ mi_sF σ 52 5) (s1 : mi_sF σ 52 5 < 400) (b0 : 0 ≤ b) (b1 : b < 128) : ty_Cv X d mi_M160 [(0, .ref 52), (1, .int (Int32.ofInt b))] σ (fun σ' => σ' = wpb σ b) := by
  intro h S
  have fr := mi_Fm_rf h
  refine mi_wp_p (pc' := 1) (st' := [.ref 52]) rfl rfl rfl ?_
  refine ty_s_gf (x := mi_sF σ 52 5) S rfl rfl rfl (List.mem_of_getElem? (i := 28) rfl) rfl ?_
  refine mi_s_k (pc' := 7) (e := 400) rfl rfl rfl (by decide +kernel) ?_
  refine mi_s_if2 (t := 31) rfl rfl rfl (by unfold mi_R; omega) (by unfold mi_R; omega) (fun hc_ => absurd (show 400 ≤ (mi_sF σ 52 5) from hc_) (by omega)) (fun _ => ?_)
  refine mi_wp_p (pc' := 11) (st' := [.ref 52]) rfl rfl rfl ?_
  refine ty_s_gr S rfl rfl rfl (List.mem_of_getElem? (i := 66) rfl) ?_
  refine mi_wp_p (pc' := 15) (st' := [.ref 52, .ref 53]) rfl rfl rfl ?_
  refine ty_s_gf (x := mi_sF σ 52 5) S rfl rfl rfl (List.mem_of_getElem? (i := 28) rfl) rfl ?_
  refine mi_wp_p (pc' := 19) (st' := [.int (Int32.ofInt b), .int (Int32.ofInt (mi_sF σ 52 5)), .ref 53]) rfl rfl rfl ?_
  refine mi_s_i2b rfl rfl (by omega) (by omega) ?_
  refine ty_s_bst S rfl rfl (List.mem_of_getElem? (i := 35) rfl) (by decide) (by decide) (by omega) (by omega) (by omega) ?_
  intro h1 S f
  replace fr := mi_Fm_tr fr f
  refine mi_wp_p (pc' := 22) (st' := [.ref 52]) rfl rfl rfl ?_
  refine mi_wp_p (pc' := 23) (st' := [.ref 52, .ref 52]) rfl rfl rfl ?_
  refine ty_s_gf (x := mi_sF σ 52 5) S rfl rfl rfl (List.mem_of_getElem? (i := 28) rfl) rfl ?_
  refine mi_wp_p (pc' := 27) (st' := [.int (Int32.ofInt 1), .int (Int32.ofInt (mi_sF σ 52 5)), .ref 52]) rfl rfl rfl ?_
  refine mi_s_add rfl rfl ?_
  refine ty_s_pf S rfl rfl rfl (List.mem_of_getElem? (i := 28) rfl) (by decide) mi_fit_int (Or.inl rfl) ?_
  intro h2 S f
  replace fr := mi_Fm_tr fr f
  exact ty_s_ret S fr rfl rfl rfl rfl ⟨rfl, rfl⟩
theorem wr_later {X : mi_X} {d : Nat} {σ : mi_Sg} {x : Int} (s0 : 0 ≤ mi_sF σ 52 4) (s1 : mi_sF σ 52 4 < 1024) : ty_Cv X d mi_M154 [(0, .ref 52), (1, .int (Int32.ofInt x))] σ (fun σ' => σ' = wlt σ x) := by
  intro h S
  have fr := mi_Fm_rf h
  refine mi_wp_p (pc' := 1) (st' := [.ref 52]) rfl rfl rfl ?_
  refine ty_s_gf (x := mi_sF σ 52 4) S rfl rfl rfl (List.mem_of_getElem? (i := 27) rfl) rfl ?_
  refine mi_s_k (pc' := 7) (e := 1024) rfl rfl rfl (by decide +kernel) ?_
  refine mi_s_if2 (t := 30) rfl rfl rfl (by unfold mi_R; omega) (by unfold mi_R; omega) (fun hc_ => absurd (show 1024 ≤ (mi_sF σ 52 4) from hc_) (by omega)) (fun _ => ?_)
  refine mi_wp_p (pc' := 11) (st' := [.ref 52]) rfl rfl rfl ?_
  refine ty_s_gr S rfl rfl rfl (List.mem_of_getElem? (i := 67) rfl) ?_
  refine mi_wp_p (pc' := 15) (st' := [.ref 52, .ref 54]) rfl rfl rfl ?_
  refine ty_s_gf (x := mi_sF σ 52 4) S rfl rfl rfl (List.mem_of_getElem? (i := 27) rfl) rfl ?_
  refine mi_wp_p (pc' := 19) (st' := [.int (Int32.ofInt x), .int (Int32.ofInt (mi_sF σ 52 4)), .ref 54]) rfl rfl rfl ?_
  refine ty_s_ast S rfl rfl (List.mem_of_getElem? (i := 36) rfl) (by decide) (by decide) (by omega) (by omega) ?_
  intro h3 S f
  replace fr := mi_Fm_tr fr f
  refine mi_wp_p (pc' := 21) (st' := [.ref 52]) rfl rfl rfl ?_
  refine mi_wp_p (pc' := 22) (st' := [.ref 52, .ref 52]) rfl rfl rfl ?_
  refine ty_s_gf (x := mi_sF σ 52 4) S rfl rfl rfl (List.mem_of_getElem? (i := 27) rfl) rfl ?_
  refine mi_wp_p (pc' := 26) (st' := [.int (Int32.ofInt 1), .int (Int32.ofInt (mi_sF σ 52 4)), .ref 52]) rfl rfl rfl ?_
  refine mi_s_add rfl rfl ?_
  refine ty_s_pf S rfl rfl rfl (List.mem_of_getElem? (i := 27) rfl) (by decide) mi_fit_int (Or.inl rfl) ?_
  intro h4 S f
  replace fr := mi_Fm_tr fr f
  exact ty_s_ret S fr rfl rfl rfl rfl ⟨rfl, rfl⟩
theorem wr_putText9 {X : mi_X} {σ : mi_Sg} {d : Nat} (s0 : 0 ≤ mi_sF σ 52 5) (s1 : mi_sF σ 52 5 + 3 ≤ 400) : ty_Cv X (d + 4) mi_M164 [(0, .ref 52), (1, .retAddr 36)] σ (fun σ' => σ' = wpb (wpb (wpb σ 105) 110) 116) := by
  intro h S
  have fr := mi_Fm_rf h
  refine mi_wp_p (pc' := 1) (st' := [.int (Int32.ofInt 0)]) rfl rfl rfl ?_
  refine mi_wp_p (pc' := 2) (l' := [(2, .int (Int32.ofInt 0)), (0, .ref 52), (1, .retAddr 36)]) (st' := []) rfl rfl rfl ?_
  refine mi_wp_p (pc' := 3) (st' := [.int (Int32.ofInt 0)]) rfl rfl rfl ?_
  refine mi_wp_p (pc' := 4) (st' := [.retAddr 36, .int (Int32.ofInt 0)]) rfl rfl rfl ?_
  refine ty_s_ci rfl rfl rfl rfl rfl rfl (mi_cal_v2 (np := 0) (args := [.retAddr 36]) (rest := [.int (Int32.ofInt 0)]) rfl rfl rfl rfl rfl (Nat.le_of_ble_eq_true rfl) rfl rfl (Nat.le_of_ble_eq_true rfl) rfl) (Nat.le_of_ble_eq_true rfl) S sln9 ?_
  intro x hh σu S f P
  obtain ⟨e1, e2⟩ := P
  rw [e2] at S
  rw [e1]
  clear e1 e2
  replace fr := mi_Fm_tr fr f
  refine mi_s_if2 (t := 25) rfl rfl rfl (by unfold mi_R; omega) (by unfold mi_R; omega) (fun hc_ => absurd (show 3 ≤ (0 : Int) from hc_) (by omega)) (fun _ => ?_)
  refine mi_wp_p (pc' := 11) (st' := [.ref 52]) rfl rfl rfl ?_
  refine mi_wp_p (pc' := 12) (st' := [.retAddr 36, .ref 52]) rfl rfl rfl ?_
  refine mi_wp_p (pc' := 13) (st' := [.int (Int32.ofInt 0), .retAddr 36, .ref 52]) rfl rfl rfl ?_
  refine ty_s_ci rfl rfl rfl rfl rfl rfl (mi_cal_v2 (np := 1) (args := [.retAddr 36, .int (Int32.ofInt 0)]) (rest := [.ref 52]) rfl rfl rfl rfl rfl (Nat.le_of_ble_eq_true rfl) rfl rfl (Nat.le_of_ble_eq_true rfl) rfl) (Nat.le_of_ble_eq_true rfl) S (sat9 (j := 0) (by omega) (by omega)) ?_
  intro x hh σu S f P
  obtain ⟨e1, e2⟩ := P
  rw [e2] at S
  rw [show x = 105 from e1]
  clear e1 e2
  replace fr := mi_Fm_tr fr f
  refine ty_s_cv rfl rfl rfl rfl rfl rfl (mi_cal_v2 (np := 1) (args := [.ref 52, .int (Int32.ofInt 105)]) (rest := []) rfl rfl rfl rfl rfl (Nat.le_of_ble_eq_true rfl) rfl rfl (Nat.le_of_ble_eq_true rfl) (ty_rcS S (List.mem_of_getElem? (i := 27) rfl))) (Nat.le_of_ble_eq_true rfl) S (wr_putByte (σ := σ) (by show 0 ≤ mi_sF σ 52 5; omega) (by show mi_sF σ 52 5 < 400; omega) (by omega) (by omega)) ?_
  intro hh σ2 S f P
  subst P
  replace fr := mi_Fm_tr fr f
  refine mi_s_inc (l' := [(2, .int (Int32.ofInt 1)), (0, .ref 52), (1, .retAddr 36)]) rfl rfl rfl (by decide) rfl ?_
  refine mi_wp_p (pc' := 2) rfl rfl rfl ?_
  refine mi_wp_p (pc' := 3) (st' := [.int (Int32.ofInt 1)]) rfl rfl rfl ?_
  refine mi_wp_p (pc' := 4) (st' := [.retAddr 36, .int (Int32.ofInt 1)]) rfl rfl rfl ?_
  refine ty_s_ci rfl rfl rfl rfl rfl rfl (mi_cal_v2 (np := 0) (args := [.retAddr 36]) (rest := [.int (Int32.ofInt 1)]) rfl rfl rfl rfl rfl (Nat.le_of_ble_eq_true rfl) rfl rfl (Nat.le_of_ble_eq_true rfl) rfl) (Nat.le_of_ble_eq_true rfl) S sln9 ?_
  intro x hh σu S f P
  obtain ⟨e1, e2⟩ := P
  rw [e2] at S
  rw [e1]
  clear e1 e2
  replace fr := mi_Fm_tr fr f
  refine mi_s_if2 (t := 25) rfl rfl rfl (by unfold mi_R; omega) (by unfold mi_R; omega) (fun hc_ => absurd (show 3 ≤ (1 : Int) from hc_) (by omega)) (fun _ => ?_)
  refine mi_wp_p (pc' := 11) (st' := [.ref 52]) rfl rfl rfl ?_
  refine mi_wp_p (pc' := 12) (st' := [.retAddr 36, .ref 52]) rfl rfl rfl ?_
  refine mi_wp_p (pc' := 13) (st' := [.int (Int32.ofInt 1), .retAddr 36, .ref 52]) rfl rfl rfl ?_
  refine ty_s_ci rfl rfl rfl rfl rfl rfl (mi_cal_v2 (np := 1) (args := [.retAddr 36, .int (Int32.ofInt 1)]) (rest := [.ref 52]) rfl rfl rfl rfl rfl (Nat.le_of_ble_eq_true rfl) rfl rfl (Nat.le_of_ble_eq_true rfl) rfl) (Nat.le_of_ble_eq_true rfl) S (sat9 (j := 1) (by omega) (by omega)) ?_
  intro x hh σu S f P
  obtain ⟨e1, e2⟩ := P
  rw [e2] at S
  rw [show x = 110 from e1]
  clear e1 e2
  replace fr := mi_Fm_tr fr f
  refine ty_s_cv rfl rfl rfl rfl rfl rfl (mi_cal_v2 (np := 1) (args := [.ref 52, .int (Int32.ofInt 110)]) (rest := []) rfl rfl rfl rfl rfl (Nat.le_of_ble_eq_true rfl) rfl rfl (Nat.le_of_ble_eq_true rfl) (ty_rcS S (List.mem_of_getElem? (i := 27) rfl))) (Nat.le_of_ble_eq_true rfl) S (wr_putByte (σ := (wpb σ 105)) (by show 0 ≤ mi_sF σ 52 5 + 1; omega) (by show mi_sF σ 52 5 + 1 < 400; omega) (by omega) (by omega)) ?_
  intro hh σ2 S f P
  subst P
  replace fr := mi_Fm_tr fr f
  refine mi_s_inc (l' := [(2, .int (Int32.ofInt 2)), (0, .ref 52), (1, .retAddr 36)]) rfl rfl rfl (by decide) rfl ?_
  refine mi_wp_p (pc' := 2) rfl rfl rfl ?_
  refine mi_wp_p (pc' := 3) (st' := [.int (Int32.ofInt 2)]) rfl rfl rfl ?_
  refine mi_wp_p (pc' := 4) (st' := [.retAddr 36, .int (Int32.ofInt 2)]) rfl rfl rfl ?_
  refine ty_s_ci rfl rfl rfl rfl rfl rfl (mi_cal_v2 (np := 0) (args := [.retAddr 36]) (rest := [.int (Int32.ofInt 2)]) rfl rfl rfl rfl rfl (Nat.le_of_ble_eq_true rfl) rfl rfl (Nat.le_of_ble_eq_true rfl) rfl) (Nat.le_of_ble_eq_true rfl) S sln9 ?_
  intro x hh σu S f P
  obtain ⟨e1, e2⟩ := P
  rw [e2] at S
  rw [e1]
  clear e1 e2
  replace fr := mi_Fm_tr fr f
  refine mi_s_if2 (t := 25) rfl rfl rfl (by unfold mi_R; omega) (by unfold mi_R; omega) (fun hc_ => absurd (show 3 ≤ (2 : Int) from hc_) (by omega)) (fun _ => ?_)
  refine mi_wp_p (pc' := 11) (st' := [.ref 52]) rfl rfl rfl ?_
  refine mi_wp_p (pc' := 12) (st' := [.retAddr 36, .ref 52]) rfl rfl rfl ?_
  refine mi_wp_p (pc' := 13) (st' := [.int (Int32.ofInt 2), .retAddr 36, .ref 52]) rfl rfl rfl ?_
  refine ty_s_ci rfl rfl rfl rfl rfl rfl (mi_cal_v2 (np := 1) (args := [.retAddr 36, .int (Int32.ofInt 2)]) (rest := [.ref 52]) rfl rfl rfl rfl rfl (Nat.le_of_ble_eq_true rfl) rfl rfl (Nat.le_of_ble_eq_true rfl) rfl) (Nat.le_of_ble_eq_true rfl) S (sat9 (j := 2) (by omega) (by omega)) ?_
  intro x hh σu S f P
  obtain ⟨e1, e2⟩ := P
  rw [e2] at S
  rw [show x = 116 from e1]
  clear e1 e2
  replace fr := mi_Fm_tr fr f
  refine ty_s_cv rfl rfl rfl rfl rfl rfl (mi_cal_v2 (np := 1) (args := [.ref 52, .int (Int32.ofInt 116)]) (rest := []) rfl rfl rfl rfl rfl (Nat.le_of_ble_eq_true rfl) rfl rfl (Nat.le_of_ble_eq_true rfl) (ty_rcS S (List.mem_of_getElem? (i := 27) rfl))) (Nat.le_of_ble_eq_true rfl) S (wr_putByte (σ := (wpb (wpb σ 105) 110)) (by show 0 ≤ mi_sF σ 52 5 + 1 + 1; omega) (by show mi_sF σ 52 5 + 1 + 1 < 400; omega) (by omega) (by omega)) ?_
  intro hh σ2 S f P
  subst P
  replace fr := mi_Fm_tr fr f
  refine mi_s_inc (l' := [(2, .int (Int32.ofInt 3)), (0, .ref 52), (1, .retAddr 36)]) rfl rfl rfl (by decide) rfl ?_
  refine mi_wp_p (pc' := 2) rfl rfl rfl ?_
  refine mi_wp_p (pc' := 3) (st' := [.int (Int32.ofInt 3)]) rfl rfl rfl ?_
  refine mi_wp_p (pc' := 4) (st' := [.retAddr 36, .int (Int32.ofInt 3)]) rfl rfl rfl ?_
  refine ty_s_ci rfl rfl rfl rfl rfl rfl (mi_cal_v2 (np := 0) (args := [.retAddr 36]) (rest := [.int (Int32.ofInt 3)]) rfl rfl rfl rfl rfl (Nat.le_of_ble_eq_true rfl) rfl rfl (Nat.le_of_ble_eq_true rfl) rfl) (Nat.le_of_ble_eq_true rfl) S sln9 ?_
  intro x hh σu S f P
  obtain ⟨e1, e2⟩ := P
  rw [e2] at S
  rw [e1]
  clear e1 e2
  replace fr := mi_Fm_tr fr f
  refine mi_s_if2 (t := 25) rfl rfl rfl (by unfold mi_R; omega) (by unfold mi_R; omega) (fun _ => ?_) (fun hc_ => absurd (show 3 ≤ (3 : Int) by omega) hc_)
  exact ty_s_ret S fr rfl rfl rfl rfl ⟨rfl, rfl⟩
theorem wr_putText10 {X : mi_X} {σ : mi_Sg} {d : Nat} (s0 : 0 ≤ mi_sF σ 52 5) (s1 : mi_sF σ 52 5 + 4 ≤ 400) : ty_Cv X (d + 4) mi_M164 [(0, .ref 52), (1, .retAddr 40)] σ (fun σ' => σ' = wpb (wpb (wpb (wpb σ 98) 111) 111) 108) := by
  intro h S
  have fr := mi_Fm_rf h
  refine mi_wp_p (pc' := 1) (st' := [.int (Int32.ofInt 0)]) rfl rfl rfl ?_
  refine mi_wp_p (pc' := 2) (l' := [(2, .int (Int32.ofInt 0)), (0, .ref 52), (1, .retAddr 40)]) (st' := []) rfl rfl rfl ?_
  refine mi_wp_p (pc' := 3) (st' := [.int (Int32.ofInt 0)]) rfl rfl rfl ?_
  refine mi_wp_p (pc' := 4) (st' := [.retAddr 40, .int (Int32.ofInt 0)]) rfl rfl rfl ?_
  refine ty_s_ci rfl rfl rfl rfl rfl rfl (mi_cal_v2 (np := 0) (args := [.retAddr 40]) (rest := [.int (Int32.ofInt 0)]) rfl rfl rfl rfl rfl (Nat.le_of_ble_eq_true rfl) rfl rfl (Nat.le_of_ble_eq_true rfl) rfl) (Nat.le_of_ble_eq_true rfl) S sln10 ?_
  intro x hh σu S f P
  obtain ⟨e1, e2⟩ := P
  rw [e2] at S
  rw [e1]
  clear e1 e2
  replace fr := mi_Fm_tr fr f
  refine mi_s_if2 (t := 25) rfl rfl rfl (by unfold mi_R; omega) (by unfold mi_R; omega) (fun hc_ => absurd (show 4 ≤ (0 : Int) from hc_) (by omega)) (fun _ => ?_)
  refine mi_wp_p (pc' := 11) (st' := [.ref 52]) rfl rfl rfl ?_
  refine mi_wp_p (pc' := 12) (st' := [.retAddr 40, .ref 52]) rfl rfl rfl ?_
  refine mi_wp_p (pc' := 13) (st' := [.int (Int32.ofInt 0), .retAddr 40, .ref 52]) rfl rfl rfl ?_
  refine ty_s_ci rfl rfl rfl rfl rfl rfl (mi_cal_v2 (np := 1) (args := [.retAddr 40, .int (Int32.ofInt 0)]) (rest := [.ref 52]) rfl rfl rfl rfl rfl (Nat.le_of_ble_eq_true rfl) rfl rfl (Nat.le_of_ble_eq_true rfl) rfl) (Nat.le_of_ble_eq_true rfl) S (sat10 (j := 0) (by omega) (by omega)) ?_
  intro x hh σu S f P
  obtain ⟨e1, e2⟩ := P
  rw [e2] at S
  rw [show x = 98 from e1]
  clear e1 e2
  replace fr := mi_Fm_tr fr f
  refine ty_s_cv rfl rfl rfl rfl rfl rfl (mi_cal_v2 (np := 1) (args := [.ref 52, .int (Int32.ofInt 98)]) (rest := []) rfl rfl rfl rfl rfl (Nat.le_of_ble_eq_true rfl) rfl rfl (Nat.le_of_ble_eq_true rfl) (ty_rcS S (List.mem_of_getElem? (i := 27) rfl))) (Nat.le_of_ble_eq_true rfl) S (wr_putByte (σ := σ) (by show 0 ≤ mi_sF σ 52 5; omega) (by show mi_sF σ 52 5 < 400; omega) (by omega) (by omega)) ?_
  intro hh σ2 S f P
  subst P
  replace fr := mi_Fm_tr fr f
  refine mi_s_inc (l' := [(2, .int (Int32.ofInt 1)), (0, .ref 52), (1, .retAddr 40)]) rfl rfl rfl (by decide) rfl ?_
  refine mi_wp_p (pc' := 2) rfl rfl rfl ?_
  refine mi_wp_p (pc' := 3) (st' := [.int (Int32.ofInt 1)]) rfl rfl rfl ?_
  refine mi_wp_p (pc' := 4) (st' := [.retAddr 40, .int (Int32.ofInt 1)]) rfl rfl rfl ?_
  refine ty_s_ci rfl rfl rfl rfl rfl rfl (mi_cal_v2 (np := 0) (args := [.retAddr 40]) (rest := [.int (Int32.ofInt 1)]) rfl rfl rfl rfl rfl (Nat.le_of_ble_eq_true rfl) rfl rfl (Nat.le_of_ble_eq_true rfl) rfl) (Nat.le_of_ble_eq_true rfl) S sln10 ?_
  intro x hh σu S f P
  obtain ⟨e1, e2⟩ := P
  rw [e2] at S
  rw [e1]
  clear e1 e2
  replace fr := mi_Fm_tr fr f
  refine mi_s_if2 (t := 25) rfl rfl rfl (by unfold mi_R; omega) (by unfold mi_R; omega) (fun hc_ => absurd (show 4 ≤ (1 : Int) from hc_) (by omega)) (fun _ => ?_)
  refine mi_wp_p (pc' := 11) (st' := [.ref 52]) rfl rfl rfl ?_
  refine mi_wp_p (pc' := 12) (st' := [.retAddr 40, .ref 52]) rfl rfl rfl ?_
  refine mi_wp_p (pc' := 13) (st' := [.int (Int32.ofInt 1), .retAddr 40, .ref 52]) rfl rfl rfl ?_
  refine ty_s_ci rfl rfl rfl rfl rfl rfl (mi_cal_v2 (np := 1) (args := [.retAddr 40, .int (Int32.ofInt 1)]) (rest := [.ref 52]) rfl rfl rfl rfl rfl (Nat.le_of_ble_eq_true rfl) rfl rfl (Nat.le_of_ble_eq_true rfl) rfl) (Nat.le_of_ble_eq_true rfl) S (sat10 (j := 1) (by omega) (by omega)) ?_
  intro x hh σu S f P
  obtain ⟨e1, e2⟩ := P
  rw [e2] at S
  rw [show x = 111 from e1]
  clear e1 e2
  replace fr := mi_Fm_tr fr f
  refine ty_s_cv rfl rfl rfl rfl rfl rfl (mi_cal_v2 (np := 1) (args := [.ref 52, .int (Int32.ofInt 111)]) (rest := []) rfl rfl rfl rfl rfl (Nat.le_of_ble_eq_true rfl) rfl rfl (Nat.le_of_ble_eq_true rfl) (ty_rcS S (List.mem_of_getElem? (i := 27) rfl))) (Nat.le_of_ble_eq_true rfl) S (wr_putByte (σ := (wpb σ 98)) (by show 0 ≤ mi_sF σ 52 5 + 1; omega) (by show mi_sF σ 52 5 + 1 < 400; omega) (by omega) (by omega)) ?_
  intro hh σ2 S f P
  subst P
  replace fr := mi_Fm_tr fr f
  refine mi_s_inc (l' := [(2, .int (Int32.ofInt 2)), (0, .ref 52), (1, .retAddr 40)]) rfl rfl rfl (by decide) rfl ?_
  refine mi_wp_p (pc' := 2) rfl rfl rfl ?_
  refine mi_wp_p (pc' := 3) (st' := [.int (Int32.ofInt 2)]) rfl rfl rfl ?_
  refine mi_wp_p (pc' := 4) (st' := [.retAddr 40, .int (Int32.ofInt 2)]) rfl rfl rfl ?_
  refine ty_s_ci rfl rfl rfl rfl rfl rfl (mi_cal_v2 (np := 0) (args := [.retAddr 40]) (rest := [.int (Int32.ofInt 2)]) rfl rfl rfl rfl rfl (Nat.le_of_ble_eq_true rfl) rfl rfl (Nat.le_of_ble_eq_true rfl) rfl) (Nat.le_of_ble_eq_true rfl) S sln10 ?_
  intro x hh σu S f P
  obtain ⟨e1, e2⟩ := P
  rw [e2] at S
  rw [e1]
  clear e1 e2
  replace fr := mi_Fm_tr fr f
  refine mi_s_if2 (t := 25) rfl rfl rfl (by unfold mi_R; omega) (by unfold mi_R; omega) (fun hc_ => absurd (show 4 ≤ (2 : Int) from hc_) (by omega)) (fun _ => ?_)
  refine mi_wp_p (pc' := 11) (st' := [.ref 52]) rfl rfl rfl ?_
  refine mi_wp_p (pc' := 12) (st' := [.retAddr 40, .ref 52]) rfl rfl rfl ?_
  refine mi_wp_p (pc' := 13) (st' := [.int (Int32.ofInt 2), .retAddr 40, .ref 52]) rfl rfl rfl ?_
  refine ty_s_ci rfl rfl rfl rfl rfl rfl (mi_cal_v2 (np := 1) (args := [.retAddr 40, .int (Int32.ofInt 2)]) (rest := [.ref 52]) rfl rfl rfl rfl rfl (Nat.le_of_ble_eq_true rfl) rfl rfl (Nat.le_of_ble_eq_true rfl) rfl) (Nat.le_of_ble_eq_true rfl) S (sat10 (j := 2) (by omega) (by omega)) ?_
  intro x hh σu S f P
  obtain ⟨e1, e2⟩ := P
  rw [e2] at S
  rw [show x = 111 from e1]
  clear e1 e2
  replace fr := mi_Fm_tr fr f
  refine ty_s_cv rfl rfl rfl rfl rfl rfl (mi_cal_v2 (np := 1) (args := [.ref 52, .int (Int32.ofInt 111)]) (rest := []) rfl rfl rfl rfl rfl (Nat.le_of_ble_eq_true rfl) rfl rfl (Nat.le_of_ble_eq_true rfl) (ty_rcS S (List.mem_of_getElem? (i := 27) rfl))) (Nat.le_of_ble_eq_true rfl) S (wr_putByte (σ := (wpb (wpb σ 98) 111)) (by show 0 ≤ mi_sF σ 52 5 + 1 + 1; omega) (by show mi_sF σ 52 5 + 1 + 1 < 400; omega) (by omega) (by omega)) ?_
  intro hh σ2 S f P
  subst P
  replace fr := mi_Fm_tr fr f
  refine mi_s_inc (l' := [(2, .int (Int32.ofInt 3)), (0, .ref 52), (1, .retAddr 40)]) rfl rfl rfl (by decide) rfl ?_
  refine mi_wp_p (pc' := 2) rfl rfl rfl ?_
  refine mi_wp_p (pc' := 3) (st' := [.int (Int32.ofInt 3)]) rfl rfl rfl ?_
  refine mi_wp_p (pc' := 4) (st' := [.retAddr 40, .int (Int32.ofInt 3)]) rfl rfl rfl ?_
  refine ty_s_ci rfl rfl rfl rfl rfl rfl (mi_cal_v2 (np := 0) (args := [.retAddr 40]) (rest := [.int (Int32.ofInt 3)]) rfl rfl rfl rfl rfl (Nat.le_of_ble_eq_true rfl) rfl rfl (Nat.le_of_ble_eq_true rfl) rfl) (Nat.le_of_ble_eq_true rfl) S sln10 ?_
  intro x hh σu S f P
  obtain ⟨e1, e2⟩ := P
  rw [e2] at S
  rw [e1]
  clear e1 e2
  replace fr := mi_Fm_tr fr f
  refine mi_s_if2 (t := 25) rfl rfl rfl (by unfold mi_R; omega) (by unfold mi_R; omega) (fun hc_ => absurd (show 4 ≤ (3 : Int) from hc_) (by omega)) (fun _ => ?_)
  refine mi_wp_p (pc' := 11) (st' := [.ref 52]) rfl rfl rfl ?_
  refine mi_wp_p (pc' := 12) (st' := [.retAddr 40, .ref 52]) rfl rfl rfl ?_
  refine mi_wp_p (pc' := 13) (st' := [.int (Int32.ofInt 3), .retAddr 40, .ref 52]) rfl rfl rfl ?_
  refine ty_s_ci rfl rfl rfl rfl rfl rfl (mi_cal_v2 (np := 1) (args := [.retAddr 40, .int (Int32.ofInt 3)]) (rest := [.ref 52]) rfl rfl rfl rfl rfl (Nat.le_of_ble_eq_true rfl) rfl rfl (Nat.le_of_ble_eq_true rfl) rfl) (Nat.le_of_ble_eq_true rfl) S (sat10 (j := 3) (by omega) (by omega)) ?_
  intro x hh σu S f P
  obtain ⟨e1, e2⟩ := P
  rw [e2] at S
  rw [show x = 108 from e1]
  clear e1 e2
  replace fr := mi_Fm_tr fr f
  refine ty_s_cv rfl rfl rfl rfl rfl rfl (mi_cal_v2 (np := 1) (args := [.ref 52, .int (Int32.ofInt 108)]) (rest := []) rfl rfl rfl rfl rfl (Nat.le_of_ble_eq_true rfl) rfl rfl (Nat.le_of_ble_eq_true rfl) (ty_rcS S (List.mem_of_getElem? (i := 27) rfl))) (Nat.le_of_ble_eq_true rfl) S (wr_putByte (σ := (wpb (wpb (wpb σ 98) 111) 111)) (by show 0 ≤ mi_sF σ 52 5 + 1 + 1 + 1; omega) (by show mi_sF σ 52 5 + 1 + 1 + 1 < 400; omega) (by omega) (by omega)) ?_
  intro hh σ2 S f P
  subst P
  replace fr := mi_Fm_tr fr f
  refine mi_s_inc (l' := [(2, .int (Int32.ofInt 4)), (0, .ref 52), (1, .retAddr 40)]) rfl rfl rfl (by decide) rfl ?_
  refine mi_wp_p (pc' := 2) rfl rfl rfl ?_
  refine mi_wp_p (pc' := 3) (st' := [.int (Int32.ofInt 4)]) rfl rfl rfl ?_
  refine mi_wp_p (pc' := 4) (st' := [.retAddr 40, .int (Int32.ofInt 4)]) rfl rfl rfl ?_
  refine ty_s_ci rfl rfl rfl rfl rfl rfl (mi_cal_v2 (np := 0) (args := [.retAddr 40]) (rest := [.int (Int32.ofInt 4)]) rfl rfl rfl rfl rfl (Nat.le_of_ble_eq_true rfl) rfl rfl (Nat.le_of_ble_eq_true rfl) rfl) (Nat.le_of_ble_eq_true rfl) S sln10 ?_
  intro x hh σu S f P
  obtain ⟨e1, e2⟩ := P
  rw [e2] at S
  rw [e1]
  clear e1 e2
  replace fr := mi_Fm_tr fr f
  refine mi_s_if2 (t := 25) rfl rfl rfl (by unfold mi_R; omega) (by unfold mi_R; omega) (fun _ => ?_) (fun hc_ => absurd (show 4 ≤ (4 : Int) by omega) hc_)
  exact ty_s_ret S fr rfl rfl rfl rfl ⟨rfl, rfl⟩
theorem wr_laterText11 {X : mi_X} {σ : mi_Sg} {d : Nat} (s0 : 0 ≤ mi_sF σ 52 4) (s1 : mi_sF σ 52 4 + 3 ≤ 1024) : ty_Cv X (d + 4) mi_M156 [(0, .ref 52), (1, .retAddr 44)] σ (fun σ' => σ' = wlt (wlt (wlt σ (-32)) (-42)) (-32)) := by
  intro h S
  have fr := mi_Fm_rf h
  refine mi_wp_p (pc' := 1) (st' := [.retAddr 44]) rfl rfl rfl ?_
  refine ty_s_ci rfl rfl rfl rfl rfl rfl (mi_cal_v2 (np := 0) (args := [.retAddr 44]) (rest := []) rfl rfl rfl rfl rfl (Nat.le_of_ble_eq_true rfl) rfl rfl (Nat.le_of_ble_eq_true rfl) rfl) (Nat.le_of_ble_eq_true rfl) S sln11 ?_
  intro x hh σu S f P
  obtain ⟨e1, e2⟩ := P
  rw [e2] at S
  rw [e1]
  clear e1 e2
  replace fr := mi_Fm_tr fr f
  refine mi_wp_p (pc' := 5) (st' := [.int (Int32.ofInt 1), .int (Int32.ofInt 3)]) rfl rfl rfl ?_
  refine mi_s_sub rfl rfl ?_
  refine mi_s_top (b := 2) rfl ?_
  refine mi_wp_p (pc' := 7) (l' := [(2, .int (Int32.ofInt 2)), (0, .ref 52), (1, .retAddr 44)]) (st' := []) rfl rfl rfl ?_
  refine mi_wp_p (pc' := 8) (st' := [.int (Int32.ofInt 2)]) rfl rfl rfl ?_
  refine mi_s_if1 (t := 27) rfl rfl rfl (by unfold mi_R; omega) (fun hc_ => absurd (show (2 : Int) < 0 from hc_) (by omega)) (fun _ => ?_)
  refine mi_wp_p (pc' := 12) (st' := [.ref 52]) rfl rfl rfl ?_
  refine mi_wp_p (pc' := 13) (st' := [.retAddr 44, .ref 52]) rfl rfl rfl ?_
  refine mi_wp_p (pc' := 14) (st' := [.int (Int32.ofInt 2), .retAddr 44, .ref 52]) rfl rfl rfl ?_
  refine ty_s_ci rfl rfl rfl rfl rfl rfl (mi_cal_v2 (np := 1) (args := [.retAddr 44, .int (Int32.ofInt 2)]) (rest := [.ref 52]) rfl rfl rfl rfl rfl (Nat.le_of_ble_eq_true rfl) rfl rfl (Nat.le_of_ble_eq_true rfl) rfl) (Nat.le_of_ble_eq_true rfl) S (sat11 (j := 2) (by omega) (by omega)) ?_
  intro x hh σu S f P
  obtain ⟨e1, e2⟩ := P
  rw [e2] at S
  rw [show x = 32 from e1]
  clear e1 e2
  replace fr := mi_Fm_tr fr f
  refine mi_s_neg rfl rfl ?_
  refine ty_s_cv rfl rfl rfl rfl rfl rfl (mi_cal_v2 (np := 1) (args := [.ref 52, .int (Int32.ofInt (-32))]) (rest := []) rfl rfl rfl rfl rfl (Nat.le_of_ble_eq_true rfl) rfl rfl (Nat.le_of_ble_eq_true rfl) (ty_rcS S (List.mem_of_getElem? (i := 27) rfl))) (Nat.le_of_ble_eq_true rfl) S (wr_later (σ := σ) (by show 0 ≤ mi_sF σ 52 4; omega) (by show mi_sF σ 52 4 < 1024; omega)) ?_
  intro hh σ2 S f P
  subst P
  replace fr := mi_Fm_tr fr f
  refine mi_s_inc (l' := [(2, .int (Int32.ofInt 1)), (0, .ref 52), (1, .retAddr 44)]) rfl rfl rfl (by decide) rfl ?_
  refine mi_wp_p (pc' := 7) rfl rfl rfl ?_
  refine mi_wp_p (pc' := 8) (st' := [.int (Int32.ofInt 1)]) rfl rfl rfl ?_
  refine mi_s_if1 (t := 27) rfl rfl rfl (by unfold mi_R; omega) (fun hc_ => absurd (show (1 : Int) < 0 from hc_) (by omega)) (fun _ => ?_)
  refine mi_wp_p (pc' := 12) (st' := [.ref 52]) rfl rfl rfl ?_
  refine mi_wp_p (pc' := 13) (st' := [.retAddr 44, .ref 52]) rfl rfl rfl ?_
  refine mi_wp_p (pc' := 14) (st' := [.int (Int32.ofInt 1), .retAddr 44, .ref 52]) rfl rfl rfl ?_
  refine ty_s_ci rfl rfl rfl rfl rfl rfl (mi_cal_v2 (np := 1) (args := [.retAddr 44, .int (Int32.ofInt 1)]) (rest := [.ref 52]) rfl rfl rfl rfl rfl (Nat.le_of_ble_eq_true rfl) rfl rfl (Nat.le_of_ble_eq_true rfl) rfl) (Nat.le_of_ble_eq_true rfl) S (sat11 (j := 1) (by omega) (by omega)) ?_
  intro x hh σu S f P
  obtain ⟨e1, e2⟩ := P
  rw [e2] at S
  rw [show x = 42 from e1]
  clear e1 e2
  replace fr := mi_Fm_tr fr f
  refine mi_s_neg rfl rfl ?_
  refine ty_s_cv rfl rfl rfl rfl rfl rfl (mi_cal_v2 (np := 1) (args := [.ref 52, .int (Int32.ofInt (-42))]) (rest := []) rfl rfl rfl rfl rfl (Nat.le_of_ble_eq_true rfl) rfl rfl (Nat.le_of_ble_eq_true rfl) (ty_rcS S (List.mem_of_getElem? (i := 27) rfl))) (Nat.le_of_ble_eq_true rfl) S (wr_later (σ := (wlt σ (-32))) (by show 0 ≤ mi_sF σ 52 4 + 1; omega) (by show mi_sF σ 52 4 + 1 < 1024; omega)) ?_
  intro hh σ2 S f P
  subst P
  replace fr := mi_Fm_tr fr f
  refine mi_s_inc (l' := [(2, .int (Int32.ofInt 0)), (0, .ref 52), (1, .retAddr 44)]) rfl rfl rfl (by decide) rfl ?_
  refine mi_wp_p (pc' := 7) rfl rfl rfl ?_
  refine mi_wp_p (pc' := 8) (st' := [.int (Int32.ofInt 0)]) rfl rfl rfl ?_
  refine mi_s_if1 (t := 27) rfl rfl rfl (by unfold mi_R; omega) (fun hc_ => absurd (show (0 : Int) < 0 from hc_) (by omega)) (fun _ => ?_)
  refine mi_wp_p (pc' := 12) (st' := [.ref 52]) rfl rfl rfl ?_
  refine mi_wp_p (pc' := 13) (st' := [.retAddr 44, .ref 52]) rfl rfl rfl ?_
  refine mi_wp_p (pc' := 14) (st' := [.int (Int32.ofInt 0), .retAddr 44, .ref 52]) rfl rfl rfl ?_
  refine ty_s_ci rfl rfl rfl rfl rfl rfl (mi_cal_v2 (np := 1) (args := [.retAddr 44, .int (Int32.ofInt 0)]) (rest := [.ref 52]) rfl rfl rfl rfl rfl (Nat.le_of_ble_eq_true rfl) rfl rfl (Nat.le_of_ble_eq_true rfl) rfl) (Nat.le_of_ble_eq_true rfl) S (sat11 (j := 0) (by omega) (by omega)) ?_
  intro x hh σu S f P
  obtain ⟨e1, e2⟩ := P
  rw [e2] at S
  rw [show x = 32 from e1]
  clear e1 e2
  replace fr := mi_Fm_tr fr f
  refine mi_s_neg rfl rfl ?_
  refine ty_s_cv rfl rfl rfl rfl rfl rfl (mi_cal_v2 (np := 1) (args := [.ref 52, .int (Int32.ofInt (-32))]) (rest := []) rfl rfl rfl rfl rfl (Nat.le_of_ble_eq_true rfl) rfl rfl (Nat.le_of_ble_eq_true rfl) (ty_rcS S (List.mem_of_getElem? (i := 27) rfl))) (Nat.le_of_ble_eq_true rfl) S (wr_later (σ := (wlt (wlt σ (-32)) (-42))) (by show 0 ≤ mi_sF σ 52 4 + 1 + 1; omega) (by show mi_sF σ 52 4 + 1 + 1 < 1024; omega)) ?_
  intro hh σ2 S f P
  subst P
  replace fr := mi_Fm_tr fr f
  refine mi_s_inc (l' := [(2, .int (Int32.ofInt (-1))), (0, .ref 52), (1, .retAddr 44)]) rfl rfl rfl (by decide) rfl ?_
  refine mi_wp_p (pc' := 7) rfl rfl rfl ?_
  refine mi_wp_p (pc' := 8) (st' := [.int (Int32.ofInt (-1))]) rfl rfl rfl ?_
  refine mi_s_if1 (t := 27) rfl rfl rfl (by unfold mi_R; omega) (fun _ => ?_) (fun hc_ => absurd (show ((-1) : Int) < 0 by omega) hc_)
  exact ty_s_ret S fr rfl rfl rfl rfl ⟨rfl, rfl⟩
theorem wr_laterText12 {X : mi_X} {σ : mi_Sg} {d : Nat} (s0 : 0 ≤ mi_sF σ 52 4) (s1 : mi_sF σ 52 4 + 4 ≤ 1024) : ty_Cv X (d + 4) mi_M156 [(0, .ref 52), (1, .retAddr 48)] σ (fun σ' => σ' = wlt (wlt (wlt (wlt σ (-32)) (-62)) (-45)) (-32)) := by
  intro h S
  have fr := mi_Fm_rf h
  refine mi_wp_p (pc' := 1) (st' := [.retAddr 48]) rfl rfl rfl ?_
  refine ty_s_ci rfl rfl rfl rfl rfl rfl (mi_cal_v2 (np := 0) (args := [.retAddr 48]) (rest := []) rfl rfl rfl rfl rfl (Nat.le_of_ble_eq_true rfl) rfl rfl (Nat.le_of_ble_eq_true rfl) rfl) (Nat.le_of_ble_eq_true rfl) S sln12 ?_
  intro x hh σu S f P
  obtain ⟨e1, e2⟩ := P
  rw [e2] at S
  rw [e1]
  clear e1 e2
  replace fr := mi_Fm_tr fr f
  refine mi_wp_p (pc' := 5) (st' := [.int (Int32.ofInt 1), .int (Int32.ofInt 4)]) rfl rfl rfl ?_
  refine mi_s_sub rfl rfl ?_
  refine mi_s_top (b := 3) rfl ?_
  refine mi_wp_p (pc' := 7) (l' := [(2, .int (Int32.ofInt 3)), (0, .ref 52), (1, .retAddr 48)]) (st' := []) rfl rfl rfl ?_
  refine mi_wp_p (pc' := 8) (st' := [.int (Int32.ofInt 3)]) rfl rfl rfl ?_
  refine mi_s_if1 (t := 27) rfl rfl rfl (by unfold mi_R; omega) (fun hc_ => absurd (show (3 : Int) < 0 from hc_) (by omega)) (fun _ => ?_)
  refine mi_wp_p (pc' := 12) (st' := [.ref 52]) rfl rfl rfl ?_
  refine mi_wp_p (pc' := 13) (st' := [.retAddr 48, .ref 52]) rfl rfl rfl ?_
  refine mi_wp_p (pc' := 14) (st' := [.int (Int32.ofInt 3), .retAddr 48, .ref 52]) rfl rfl rfl ?_
  refine ty_s_ci rfl rfl rfl rfl rfl rfl (mi_cal_v2 (np := 1) (args := [.retAddr 48, .int (Int32.ofInt 3)]) (rest := [.ref 52]) rfl rfl rfl rfl rfl (Nat.le_of_ble_eq_true rfl) rfl rfl (Nat.le_of_ble_eq_true rfl) rfl) (Nat.le_of_ble_eq_true rfl) S (sat12 (j := 3) (by omega) (by omega)) ?_
  intro x hh σu S f P
  obtain ⟨e1, e2⟩ := P
  rw [e2] at S
  rw [show x = 32 from e1]
  clear e1 e2
  replace fr := mi_Fm_tr fr f
  refine mi_s_neg rfl rfl ?_
  refine ty_s_cv rfl rfl rfl rfl rfl rfl (mi_cal_v2 (np := 1) (args := [.ref 52, .int (Int32.ofInt (-32))]) (rest := []) rfl rfl rfl rfl rfl (Nat.le_of_ble_eq_true rfl) rfl rfl (Nat.le_of_ble_eq_true rfl) (ty_rcS S (List.mem_of_getElem? (i := 27) rfl))) (Nat.le_of_ble_eq_true rfl) S (wr_later (σ := σ) (by show 0 ≤ mi_sF σ 52 4; omega) (by show mi_sF σ 52 4 < 1024; omega)) ?_
  intro hh σ2 S f P
  subst P
  replace fr := mi_Fm_tr fr f
  refine mi_s_inc (l' := [(2, .int (Int32.ofInt 2)), (0, .ref 52), (1, .retAddr 48)]) rfl rfl rfl (by decide) rfl ?_
  refine mi_wp_p (pc' := 7) rfl rfl rfl ?_
  refine mi_wp_p (pc' := 8) (st' := [.int (Int32.ofInt 2)]) rfl rfl rfl ?_
  refine mi_s_if1 (t := 27) rfl rfl rfl (by unfold mi_R; omega) (fun hc_ => absurd (show (2 : Int) < 0 from hc_) (by omega)) (fun _ => ?_)
  refine mi_wp_p (pc' := 12) (st' := [.ref 52]) rfl rfl rfl ?_
  refine mi_wp_p (pc' := 13) (st' := [.retAddr 48, .ref 52]) rfl rfl rfl ?_
  refine mi_wp_p (pc' := 14) (st' := [.int (Int32.ofInt 2), .retAddr 48, .ref 52]) rfl rfl rfl ?_
  refine ty_s_ci rfl rfl rfl rfl rfl rfl (mi_cal_v2 (np := 1) (args := [.retAddr 48, .int (Int32.ofInt 2)]) (rest := [.ref 52]) rfl rfl rfl rfl rfl (Nat.le_of_ble_eq_true rfl) rfl rfl (Nat.le_of_ble_eq_true rfl) rfl) (Nat.le_of_ble_eq_true rfl) S (sat12 (j := 2) (by omega) (by omega)) ?_
  intro x hh σu S f P
  obtain ⟨e1, e2⟩ := P
  rw [e2] at S
  rw [show x = 62 from e1]
  clear e1 e2
  replace fr := mi_Fm_tr fr f
  refine mi_s_neg rfl rfl ?_
  refine ty_s_cv rfl rfl rfl rfl rfl rfl (mi_cal_v2 (np := 1) (args := [.ref 52, .int (Int32.ofInt (-62))]) (rest := []) rfl rfl rfl rfl rfl (Nat.le_of_ble_eq_true rfl) rfl rfl (Nat.le_of_ble_eq_true rfl) (ty_rcS S (List.mem_of_getElem? (i := 27) rfl))) (Nat.le_of_ble_eq_true rfl) S (wr_later (σ := (wlt σ (-32))) (by show 0 ≤ mi_sF σ 52 4 + 1; omega) (by show mi_sF σ 52 4 + 1 < 1024; omega)) ?_
  intro hh σ2 S f P
  subst P
  replace fr := mi_Fm_tr fr f
  refine mi_s_inc (l' := [(2, .int (Int32.ofInt 1)), (0, .ref 52), (1, .retAddr 48)]) rfl rfl rfl (by decide) rfl ?_
  refine mi_wp_p (pc' := 7) rfl rfl rfl ?_
  refine mi_wp_p (pc' := 8) (st' := [.int (Int32.ofInt 1)]) rfl rfl rfl ?_
  refine mi_s_if1 (t := 27) rfl rfl rfl (by unfold mi_R; omega) (fun hc_ => absurd (show (1 : Int) < 0 from hc_) (by omega)) (fun _ => ?_)
  refine mi_wp_p (pc' := 12) (st' := [.ref 52]) rfl rfl rfl ?_
  refine mi_wp_p (pc' := 13) (st' := [.retAddr 48, .ref 52]) rfl rfl rfl ?_
  refine mi_wp_p (pc' := 14) (st' := [.int (Int32.ofInt 1), .retAddr 48, .ref 52]) rfl rfl rfl ?_
  refine ty_s_ci rfl rfl rfl rfl rfl rfl (mi_cal_v2 (np := 1) (args := [.retAddr 48, .int (Int32.ofInt 1)]) (rest := [.ref 52]) rfl rfl rfl rfl rfl (Nat.le_of_ble_eq_true rfl) rfl rfl (Nat.le_of_ble_eq_true rfl) rfl) (Nat.le_of_ble_eq_true rfl) S (sat12 (j := 1) (by omega) (by omega)) ?_
  intro x hh σu S f P
  obtain ⟨e1, e2⟩ := P
  rw [e2] at S
  rw [show x = 45 from e1]
  clear e1 e2
  replace fr := mi_Fm_tr fr f
  refine mi_s_neg rfl rfl ?_
  refine ty_s_cv rfl rfl rfl rfl rfl rfl (mi_cal_v2 (np := 1) (args := [.ref 52, .int (Int32.ofInt (-45))]) (rest := []) rfl rfl rfl rfl rfl (Nat.le_of_ble_eq_true rfl) rfl rfl (Nat.le_of_ble_eq_true rfl) (ty_rcS S (List.mem_of_getElem? (i := 27) rfl))) (Nat.le_of_ble_eq_true rfl) S (wr_later (σ := (wlt (wlt σ (-32)) (-62))) (by show 0 ≤ mi_sF σ 52 4 + 1 + 1; omega) (by show mi_sF σ 52 4 + 1 + 1 < 1024; omega)) ?_
  intro hh σ2 S f P
  subst P
  replace fr := mi_Fm_tr fr f
  refine mi_s_inc (l' := [(2, .int (Int32.ofInt 0)), (0, .ref 52), (1, .retAddr 48)]) rfl rfl rfl (by decide) rfl ?_
  refine mi_wp_p (pc' := 7) rfl rfl rfl ?_
  refine mi_wp_p (pc' := 8) (st' := [.int (Int32.ofInt 0)]) rfl rfl rfl ?_
  refine mi_s_if1 (t := 27) rfl rfl rfl (by unfold mi_R; omega) (fun hc_ => absurd (show (0 : Int) < 0 from hc_) (by omega)) (fun _ => ?_)
  refine mi_wp_p (pc' := 12) (st' := [.ref 52]) rfl rfl rfl ?_
  refine mi_wp_p (pc' := 13) (st' := [.retAddr 48, .ref 52]) rfl rfl rfl ?_
  refine mi_wp_p (pc' := 14) (st' := [.int (Int32.ofInt 0), .retAddr 48, .ref 52]) rfl rfl rfl ?_
  refine ty_s_ci rfl rfl rfl rfl rfl rfl (mi_cal_v2 (np := 1) (args := [.retAddr 48, .int (Int32.ofInt 0)]) (rest := [.ref 52]) rfl rfl rfl rfl rfl (Nat.le_of_ble_eq_true rfl) rfl rfl (Nat.le_of_ble_eq_true rfl) rfl) (Nat.le_of_ble_eq_true rfl) S (sat12 (j := 0) (by omega) (by omega)) ?_
  intro x hh σu S f P
  obtain ⟨e1, e2⟩ := P
  rw [e2] at S
  rw [show x = 32 from e1]
  clear e1 e2
  replace fr := mi_Fm_tr fr f
  refine mi_s_neg rfl rfl ?_
  refine ty_s_cv rfl rfl rfl rfl rfl rfl (mi_cal_v2 (np := 1) (args := [.ref 52, .int (Int32.ofInt (-32))]) (rest := []) rfl rfl rfl rfl rfl (Nat.le_of_ble_eq_true rfl) rfl rfl (Nat.le_of_ble_eq_true rfl) (ty_rcS S (List.mem_of_getElem? (i := 27) rfl))) (Nat.le_of_ble_eq_true rfl) S (wr_later (σ := (wlt (wlt (wlt σ (-32)) (-62)) (-45))) (by show 0 ≤ mi_sF σ 52 4 + 1 + 1 + 1; omega) (by show mi_sF σ 52 4 + 1 + 1 + 1 < 1024; omega)) ?_
  intro hh σ2 S f P
  subst P
  replace fr := mi_Fm_tr fr f
  refine mi_s_inc (l' := [(2, .int (Int32.ofInt (-1))), (0, .ref 52), (1, .retAddr 48)]) rfl rfl rfl (by decide) rfl ?_
  refine mi_wp_p (pc' := 7) rfl rfl rfl ?_
  refine mi_wp_p (pc' := 8) (st' := [.int (Int32.ofInt (-1))]) rfl rfl rfl ?_
  refine mi_s_if1 (t := 27) rfl rfl rfl (by unfold mi_R; omega) (fun _ => ?_) (fun hc_ => absurd (show ((-1) : Int) < 0 by omega) hc_)
  exact ty_s_ret S fr rfl rfl rfl rfl ⟨rfl, rfl⟩
theorem wr_own1 {X : mi_X} {d : Nat} {σ : mi_Sg}  : ty_Ci X d mi_M158 [(0, .ref 52), (1, .int (Int32.ofInt 1))] σ (fun x σ' => x = 3 ∧ σ' = σ) := by
  intro h S
  have fr := mi_Fm_rf h
  refine mi_wp_p (pc' := 1) (st' := [.int (Int32.ofInt 1)]) rfl rfl rfl ?_
  refine mi_wp_p (pc' := 40) (l' := [(0, .ref 52), (1, .int (Int32.ofInt 1))]) (st' := []) rfl rfl rfl ?_
  refine mi_wp_p (pc' := 41) (st' := [.int (Int32.ofInt 3)]) rfl rfl rfl ?_
  exact ty_s_ret S fr rfl rfl rfl (mi_ret_i rfl) ⟨_, rfl, ⟨rfl, rfl⟩⟩
theorem wr_own2 {X : mi_X} {d : Nat} {σ : mi_Sg}  : ty_Ci X d mi_M158 [(0, .ref 52), (1, .int (Int32.ofInt 2))] σ (fun x σ' => x = 4 ∧ σ' = σ) := by
  intro h S
  have fr := mi_Fm_rf h
  refine mi_wp_p (pc' := 1) (st' := [.int (Int32.ofInt 2)]) rfl rfl rfl ?_
  refine mi_wp_p (pc' := 42) (l' := [(0, .ref 52), (1, .int (Int32.ofInt 2))]) (st' := []) rfl rfl rfl ?_
  refine mi_wp_p (pc' := 43) (st' := [.int (Int32.ofInt 4)]) rfl rfl rfl ?_
  exact ty_s_ret S fr rfl rfl rfl (mi_ret_i rfl) ⟨_, rfl, ⟨rfl, rfl⟩⟩
theorem wr_own3 {X : mi_X} {d : Nat} {σ : mi_Sg}  : ty_Ci X d mi_M158 [(0, .ref 52), (1, .int (Int32.ofInt 3))] σ (fun x σ' => x = 2 ∧ σ' = σ) := by
  intro h S
  have fr := mi_Fm_rf h
  refine mi_wp_p (pc' := 1) (st' := [.int (Int32.ofInt 3)]) rfl rfl rfl ?_
  refine mi_wp_p (pc' := 44) (l' := [(0, .ref 52), (1, .int (Int32.ofInt 3))]) (st' := []) rfl rfl rfl ?_
  refine mi_wp_p (pc' := 45) (st' := [.int (Int32.ofInt 2)]) rfl rfl rfl ?_
  exact ty_s_ret S fr rfl rfl rfl (mi_ret_i rfl) ⟨_, rfl, ⟨rfl, rfl⟩⟩
theorem wr_own4 {X : mi_X} {d : Nat} {σ : mi_Sg}  : ty_Ci X d mi_M158 [(0, .ref 52), (1, .int (Int32.ofInt 4))] σ (fun x σ' => x = 2 ∧ σ' = σ) := by
  intro h S
  have fr := mi_Fm_rf h
  refine mi_wp_p (pc' := 1) (st' := [.int (Int32.ofInt 4)]) rfl rfl rfl ?_
  refine mi_wp_p (pc' := 44) (l' := [(0, .ref 52), (1, .int (Int32.ofInt 4))]) (st' := []) rfl rfl rfl ?_
  refine mi_wp_p (pc' := 45) (st' := [.int (Int32.ofInt 2)]) rfl rfl rfl ?_
  exact ty_s_ret S fr rfl rfl rfl (mi_ret_i rfl) ⟨_, rfl, ⟨rfl, rfl⟩⟩
theorem wr_own5 {X : mi_X} {d : Nat} {σ : mi_Sg}  : ty_Ci X d mi_M158 [(0, .ref 52), (1, .int (Int32.ofInt 5))] σ (fun x σ' => x = 3 ∧ σ' = σ) := by
  intro h S
  have fr := mi_Fm_rf h
  refine mi_wp_p (pc' := 1) (st' := [.int (Int32.ofInt 5)]) rfl rfl rfl ?_
  refine mi_wp_p (pc' := 46) (l' := [(0, .ref 52), (1, .int (Int32.ofInt 5))]) (st' := []) rfl rfl rfl ?_
  refine mi_wp_p (pc' := 47) (st' := [.int (Int32.ofInt 3)]) rfl rfl rfl ?_
  exact ty_s_ret S fr rfl rfl rfl (mi_ret_i rfl) ⟨_, rfl, ⟨rfl, rfl⟩⟩
theorem wr_own6 {X : mi_X} {d : Nat} {σ : mi_Sg}  : ty_Ci X d mi_M158 [(0, .ref 52), (1, .int (Int32.ofInt 6))] σ (fun x σ' => x = 4 ∧ σ' = σ) := by
  intro h S
  have fr := mi_Fm_rf h
  refine mi_wp_p (pc' := 1) (st' := [.int (Int32.ofInt 6)]) rfl rfl rfl ?_
  refine mi_wp_p (pc' := 48) (l' := [(0, .ref 52), (1, .int (Int32.ofInt 6))]) (st' := []) rfl rfl rfl ?_
  refine mi_wp_p (pc' := 49) (st' := [.int (Int32.ofInt 4)]) rfl rfl rfl ?_
  exact ty_s_ret S fr rfl rfl rfl (mi_ret_i rfl) ⟨_, rfl, ⟨rfl, rfl⟩⟩
theorem wr_bytesIn {X : mi_X} {d : Nat} {σ : mi_Sg} : ty_Ci X d mi_M152 [(0, .long 1818850164)] σ (fun x σ' => x = 4 ∧ σ' = σ) := ty_of_run (n := 300) (fun h => rfl) ⟨_, rfl, rfl, rfl⟩
theorem wr_own9 {X : mi_X} {σ : mi_Sg} {d : Nat} (K : kb σ) : ty_Ci X (d + 1) mi_M158 [(0, .ref 52), (1, .int (Int32.ofInt 9))] σ (fun x σ' => x = 4 ∧ σ' = σ) := by
  intro h S
  have fr := mi_Fm_rf h
  refine mi_wp_p (pc' := 1) (st' := [.int (Int32.ofInt 9)]) rfl rfl rfl ?_
  refine mi_wp_p (pc' := 50) (l' := [(0, .ref 52), (1, .int (Int32.ofInt 9))]) (st' := []) rfl rfl rfl ?_
  refine mi_wp_p (pc' := 51) (st' := [.ref 52]) rfl rfl rfl ?_
  refine ty_s_gr S rfl rfl rfl (List.mem_of_getElem? (i := 65) rfl) ?_
  refine mi_wp_p (pc' := 55) (st' := [.int (Int32.ofInt 9), .ref 17]) rfl rfl rfl ?_
  refine mi_s_k (pc' := 57) (e := 7) rfl rfl rfl (by decide +kernel) ?_
  refine mi_s_sub rfl rfl ?_
  refine mi_s_top (b := 2) rfl ?_
  refine ty_s_cj rfl rfl rfl rfl rfl rfl (mi_cal_v2 (np := 1) (args := [.ref 17, .int (Int32.ofInt 2)]) (rest := []) rfl rfl rfl rfl rfl (Nat.le_of_ble_eq_true rfl) rfl rfl (Nat.le_of_ble_eq_true rfl) (ty_rcS S (List.mem_of_getElem? (i := 10) rfl))) (Nat.le_of_ble_eq_true rfl) S (kn_keyOfType (a := 2) (by omega) (by rw [K.1]; omega) (by rw [K.1]; omega)) ?_
  intro x hh σu S f P
  obtain ⟨e1, e2⟩ := P
  rw [e2] at S
  rw [e1, K.2.2.2.1]
  clear e1 e2
  replace fr := mi_Fm_tr fr f
  refine ty_s_ci rfl rfl rfl rfl rfl rfl (mi_cal_s2 (np := 1) (args := [.long 1818850164]) (rest := []) rfl rfl rfl (Or.inl rfl) rfl (Nat.le_of_ble_eq_true rfl) rfl rfl (Nat.le_of_ble_eq_true rfl)) (Nat.le_of_ble_eq_true rfl) S wr_bytesIn ?_
  intro x hh σu S f P
  obtain ⟨e1, e2⟩ := P
  rw [e2] at S
  rw [e1]
  clear e1 e2
  replace fr := mi_Fm_tr fr f
  exact ty_s_ret S fr rfl rfl rfl (mi_ret_i rfl) ⟨_, rfl, ⟨rfl, rfl⟩⟩
theorem iw_p5_0 {X : mi_X} {σ : mi_Sg} {d : Nat} {nd kt : Int} (n0 : 0 < nd) (n1 : nd < mi_sF σ 9 8) (nr : mi_sA σ 12 nd = nd) (hk : 0 ≤ ty_k σ nd 0 ∧ ty_k σ nd 0 < mi_sF σ 9 8) (e1 : mi_sA σ 10 nd = 5) (k0 : 0 < (ty_K' σ nd 0)) (k1 : (ty_K' σ nd 0) < mi_sF σ 9 8) (kr : mi_sA σ 12 (ty_K' σ nd 0) = (ty_K' σ nd 0)) (e2 : mi_sA σ 10 (ty_K' σ nd 0) = kt) (q0 : 0 ≤ kt) (q1 : kt ≤ 100) (h : kt = 5) : ty_Ci X (d + 2) mi_M153 [(0, .ref 52), (1, .int (Int32.ofInt nd)), (2, .int (Int32.ofInt 0))] σ (fun x σ' => x = 1 ∧ σ' = σ) := by
  intro h S
  have fr := mi_Fm_rf h
  have hu := ty_H_u S
  refine mi_wp_p (pc' := 1) (st' := [.ref 52]) rfl rfl rfl ?_
  refine ty_s_gr S rfl rfl rfl (List.mem_of_getElem? (i := 64) rfl) ?_
  refine mi_wp_p (pc' := 5) (st' := [.int (Int32.ofInt nd), .ref 9]) rfl rfl rfl ?_
  refine ty_s_ci rfl rfl rfl rfl rfl rfl (mi_cal_v2 (np := 1) (args := [.ref 9, .int (Int32.ofInt nd)]) (rest := []) rfl rfl rfl rfl rfl (Nat.le_of_ble_eq_true rfl) rfl rfl (Nat.le_of_ble_eq_true rfl) (ty_rcS S (List.mem_of_getElem? (i := 5) rfl))) (Nat.le_of_ble_eq_true rfl) S (ty_tagOf (by omega) n1) ?_
  intro x hh σu S f P
  obtain ⟨g1, g2⟩ := P
  rw [g2] at S
  rw [g1, nr, e1]
  clear g1 g2
  replace fr := mi_Fm_tr fr f
  refine mi_wp_p (pc' := 9) (l' := [(3, .int (Int32.ofInt 5)), (0, .ref 52), (1, .int (Int32.ofInt nd)), (2, .int (Int32.ofInt 0))]) (st' := []) rfl rfl rfl ?_
  refine mi_wp_p (pc' := 10) (st' := [.ref 52]) rfl rfl rfl ?_
  refine ty_s_gr S rfl rfl rfl (List.mem_of_getElem? (i := 64) rfl) ?_
  refine mi_wp_p (pc' := 14) (st' := [.int (Int32.ofInt nd), .ref 9]) rfl rfl rfl ?_
  refine mi_wp_p (pc' := 15) (st' := [.int (Int32.ofInt 0), .int (Int32.ofInt nd), .ref 9]) rfl rfl rfl ?_
  refine ty_s_ci rfl rfl rfl rfl rfl rfl (mi_cal_v2 (np := 2) (args := [.ref 9, .int (Int32.ofInt nd), .int (Int32.ofInt 0)]) (rest := []) rfl rfl rfl rfl rfl (Nat.le_of_ble_eq_true rfl) rfl rfl (Nat.le_of_ble_eq_true rfl) (ty_rcS S (List.mem_of_getElem? (i := 5) rfl))) (Nat.le_of_ble_eq_true rfl) S (ty_kidOf n0 n1 (by omega) (by rw [nr]; exact hk)) ?_
  intro x hh σu S f P
  obtain ⟨g1, g2⟩ := P
  rw [g2] at S
  rw [nr] at g1
  rw [show x = (ty_K' σ nd 0) from g1]
  clear g1 g2
  replace fr := mi_Fm_tr fr f
  refine mi_wp_p (pc' := 20) (l' := [(4, .int (Int32.ofInt (ty_K' σ nd 0))), (3, .int (Int32.ofInt 5)), (0, .ref 52), (1, .int (Int32.ofInt nd)), (2, .int (Int32.ofInt 0))]) (st' := []) rfl rfl rfl ?_
  refine mi_wp_p (pc' := 21) (st' := [.ref 52]) rfl rfl rfl ?_
  refine ty_s_gr S rfl rfl rfl (List.mem_of_getElem? (i := 64) rfl) ?_
  refine mi_wp_p (pc' := 26) (st' := [.int (Int32.ofInt (ty_K' σ nd 0)), .ref 9]) rfl rfl rfl ?_
  refine ty_s_ci rfl rfl rfl rfl rfl rfl (mi_cal_v2 (np := 1) (args := [.ref 9, .int (Int32.ofInt (ty_K' σ nd 0))]) (rest := []) rfl rfl rfl rfl rfl (Nat.le_of_ble_eq_true rfl) rfl rfl (Nat.le_of_ble_eq_true rfl) (ty_rcS S (List.mem_of_getElem? (i := 5) rfl))) (Nat.le_of_ble_eq_true rfl) S (ty_tagOf (by omega) k1) ?_
  intro x hh σu S f P
  obtain ⟨g1, g2⟩ := P
  rw [g2] at S
  rw [g1, kr, e2]
  clear g1 g2
  replace fr := mi_Fm_tr fr f
  refine mi_wp_p (pc' := 31) (l' := [(5, .int (Int32.ofInt kt)), (4, .int (Int32.ofInt (ty_K' σ nd 0))), (3, .int (Int32.ofInt 5)), (0, .ref 52), (1, .int (Int32.ofInt nd)), (2, .int (Int32.ofInt 0))]) (st' := []) rfl rfl rfl ?_
  refine mi_wp_p (pc' := 32) (st' := [.int (Int32.ofInt 5)]) rfl rfl rfl ?_
  refine mi_wp_p (pc' := 33) (st' := [.int (Int32.ofInt 5), .int (Int32.ofInt 5)]) rfl rfl rfl ?_
  refine mi_s_if2 (t := 55) rfl rfl rfl (by unfold mi_R; omega) (by unfold mi_R; omega) (fun hc_ => absurd (show (5 : Int) ≠ 5 from hc_) (by omega)) (fun _ => ?_)
  refine mi_wp_p (pc' := 38) (st' := [.int (Int32.ofInt kt)]) rfl rfl rfl ?_
  refine mi_wp_p (pc' := 39) (st' := [.int (Int32.ofInt 5), .int (Int32.ofInt kt)]) rfl rfl rfl ?_
  refine mi_s_if2 (t := 49) rfl rfl rfl (by unfold mi_R; omega) (by unfold mi_R; omega) (fun _ => ?_) (fun hc_ => absurd (show kt = 5 by omega) hc_)
  refine mi_wp_p (pc' := 50) (st' := [.int (Int32.ofInt 1)]) rfl rfl rfl ?_
  refine mi_wp_p (pc' := 54) rfl rfl rfl ?_
  exact ty_s_ret S fr rfl rfl rfl rfl ⟨_, rfl, ⟨rfl, rfl⟩⟩
theorem iw_p6_0 {X : mi_X} {σ : mi_Sg} {d : Nat} {nd kt : Int} (n0 : 0 < nd) (n1 : nd < mi_sF σ 9 8) (nr : mi_sA σ 12 nd = nd) (hk : 0 ≤ ty_k σ nd 0 ∧ ty_k σ nd 0 < mi_sF σ 9 8) (e1 : mi_sA σ 10 nd = 5) (k0 : 0 < (ty_K' σ nd 0)) (k1 : (ty_K' σ nd 0) < mi_sF σ 9 8) (kr : mi_sA σ 12 (ty_K' σ nd 0) = (ty_K' σ nd 0)) (e2 : mi_sA σ 10 (ty_K' σ nd 0) = kt) (q0 : 0 ≤ kt) (q1 : kt ≤ 100) (h : kt = 6) : ty_Ci X (d + 2) mi_M153 [(0, .ref 52), (1, .int (Int32.ofInt nd)), (2, .int (Int32.ofInt 0))] σ (fun x σ' => x = 1 ∧ σ' = σ) := by
  intro h S
  have fr := mi_Fm_rf h
  have hu := ty_H_u S
  refine mi_wp_p (pc' := 1) (st' := [.ref 52]) rfl rfl rfl ?_
  refine ty_s_gr S rfl rfl rfl (List.mem_of_getElem? (i := 64) rfl) ?_
  refine mi_wp_p (pc' := 5) (st' := [.int (Int32.ofInt nd), .ref 9]) rfl rfl rfl ?_
  refine ty_s_ci rfl rfl rfl rfl rfl rfl (mi_cal_v2 (np := 1) (args := [.ref 9, .int (Int32.ofInt nd)]) (rest := []) rfl rfl rfl rfl rfl (Nat.le_of_ble_eq_true rfl) rfl rfl (Nat.le_of_ble_eq_true rfl) (ty_rcS S (List.mem_of_getElem? (i := 5) rfl))) (Nat.le_of_ble_eq_true rfl) S (ty_tagOf (by omega) n1) ?_
  intro x hh σu S f P
  obtain ⟨g1, g2⟩ := P
  rw [g2] at S
  rw [g1, nr, e1]
  clear g1 g2
  replace fr := mi_Fm_tr fr f
  refine mi_wp_p (pc' := 9) (l' := [(3, .int (Int32.ofInt 5)), (0, .ref 52), (1, .int (Int32.ofInt nd)), (2, .int (Int32.ofInt 0))]) (st' := []) rfl rfl rfl ?_
  refine mi_wp_p (pc' := 10) (st' := [.ref 52]) rfl rfl rfl ?_
  refine ty_s_gr S rfl rfl rfl (List.mem_of_getElem? (i := 64) rfl) ?_
  refine mi_wp_p (pc' := 14) (st' := [.int (Int32.ofInt nd), .ref 9]) rfl rfl rfl ?_
  refine mi_wp_p (pc' := 15) (st' := [.int (Int32.ofInt 0), .int (Int32.ofInt nd), .ref 9]) rfl rfl rfl ?_
  refine ty_s_ci rfl rfl rfl rfl rfl rfl (mi_cal_v2 (np := 2) (args := [.ref 9, .int (Int32.ofInt nd), .int (Int32.ofInt 0)]) (rest := []) rfl rfl rfl rfl rfl (Nat.le_of_ble_eq_true rfl) rfl rfl (Nat.le_of_ble_eq_true rfl) (ty_rcS S (List.mem_of_getElem? (i := 5) rfl))) (Nat.le_of_ble_eq_true rfl) S (ty_kidOf n0 n1 (by omega) (by rw [nr]; exact hk)) ?_
  intro x hh σu S f P
  obtain ⟨g1, g2⟩ := P
  rw [g2] at S
  rw [nr] at g1
  rw [show x = (ty_K' σ nd 0) from g1]
  clear g1 g2
  replace fr := mi_Fm_tr fr f
  refine mi_wp_p (pc' := 20) (l' := [(4, .int (Int32.ofInt (ty_K' σ nd 0))), (3, .int (Int32.ofInt 5)), (0, .ref 52), (1, .int (Int32.ofInt nd)), (2, .int (Int32.ofInt 0))]) (st' := []) rfl rfl rfl ?_
  refine mi_wp_p (pc' := 21) (st' := [.ref 52]) rfl rfl rfl ?_
  refine ty_s_gr S rfl rfl rfl (List.mem_of_getElem? (i := 64) rfl) ?_
  refine mi_wp_p (pc' := 26) (st' := [.int (Int32.ofInt (ty_K' σ nd 0)), .ref 9]) rfl rfl rfl ?_
  refine ty_s_ci rfl rfl rfl rfl rfl rfl (mi_cal_v2 (np := 1) (args := [.ref 9, .int (Int32.ofInt (ty_K' σ nd 0))]) (rest := []) rfl rfl rfl rfl rfl (Nat.le_of_ble_eq_true rfl) rfl rfl (Nat.le_of_ble_eq_true rfl) (ty_rcS S (List.mem_of_getElem? (i := 5) rfl))) (Nat.le_of_ble_eq_true rfl) S (ty_tagOf (by omega) k1) ?_
  intro x hh σu S f P
  obtain ⟨g1, g2⟩ := P
  rw [g2] at S
  rw [g1, kr, e2]
  clear g1 g2
  replace fr := mi_Fm_tr fr f
  refine mi_wp_p (pc' := 31) (l' := [(5, .int (Int32.ofInt kt)), (4, .int (Int32.ofInt (ty_K' σ nd 0))), (3, .int (Int32.ofInt 5)), (0, .ref 52), (1, .int (Int32.ofInt nd)), (2, .int (Int32.ofInt 0))]) (st' := []) rfl rfl rfl ?_
  refine mi_wp_p (pc' := 32) (st' := [.int (Int32.ofInt 5)]) rfl rfl rfl ?_
  refine mi_wp_p (pc' := 33) (st' := [.int (Int32.ofInt 5), .int (Int32.ofInt 5)]) rfl rfl rfl ?_
  refine mi_s_if2 (t := 55) rfl rfl rfl (by unfold mi_R; omega) (by unfold mi_R; omega) (fun hc_ => absurd (show (5 : Int) ≠ 5 from hc_) (by omega)) (fun _ => ?_)
  refine mi_wp_p (pc' := 38) (st' := [.int (Int32.ofInt kt)]) rfl rfl rfl ?_
  refine mi_wp_p (pc' := 39) (st' := [.int (Int32.ofInt 5), .int (Int32.ofInt kt)]) rfl rfl rfl ?_
  refine mi_s_if2 (t := 49) rfl rfl rfl (by unfold mi_R; omega) (by unfold mi_R; omega) (fun hc_ => absurd (show kt = 5 from hc_) (by omega)) (fun _ => ?_)
  refine mi_wp_p (pc' := 44) (st' := [.int (Int32.ofInt kt)]) rfl rfl rfl ?_
  refine mi_s_k (pc' := 46) (e := 6) rfl rfl rfl (by decide +kernel) ?_
  refine mi_s_if2 (t := 53) rfl rfl rfl (by unfold mi_R; omega) (by unfold mi_R; omega) (fun hc_ => absurd (show kt ≠ 6 from hc_) (by omega)) (fun _ => ?_)
  refine mi_wp_p (pc' := 50) (st' := [.int (Int32.ofInt 1)]) rfl rfl rfl ?_
  refine mi_wp_p (pc' := 54) rfl rfl rfl ?_
  exact ty_s_ret S fr rfl rfl rfl rfl ⟨_, rfl, ⟨rfl, rfl⟩⟩
theorem iw_p0_0 {X : mi_X} {σ : mi_Sg} {d : Nat} {nd kt : Int} (n0 : 0 < nd) (n1 : nd < mi_sF σ 9 8) (nr : mi_sA σ 12 nd = nd) (hk : 0 ≤ ty_k σ nd 0 ∧ ty_k σ nd 0 < mi_sF σ 9 8) (e1 : mi_sA σ 10 nd = 5) (k0 : 0 < (ty_K' σ nd 0)) (k1 : (ty_K' σ nd 0) < mi_sF σ 9 8) (kr : mi_sA σ 12 (ty_K' σ nd 0) = (ty_K' σ nd 0)) (e2 : mi_sA σ 10 (ty_K' σ nd 0) = kt) (q0 : 0 ≤ kt) (q1 : kt ≤ 100) (h : kt ≠ 5 ∧ kt ≠ 6) : ty_Ci X (d + 2) mi_M153 [(0, .ref 52), (1, .int (Int32.ofInt nd)), (2, .int (Int32.ofInt 0))] σ (fun x σ' => x = 0 ∧ σ' = σ) := by
  intro h S
  have fr := mi_Fm_rf h
  have hu := ty_H_u S
  refine mi_wp_p (pc' := 1) (st' := [.ref 52]) rfl rfl rfl ?_
  refine ty_s_gr S rfl rfl rfl (List.mem_of_getElem? (i := 64) rfl) ?_
  refine mi_wp_p (pc' := 5) (st' := [.int (Int32.ofInt nd), .ref 9]) rfl rfl rfl ?_
  refine ty_s_ci rfl rfl rfl rfl rfl rfl (mi_cal_v2 (np := 1) (args := [.ref 9, .int (Int32.ofInt nd)]) (rest := []) rfl rfl rfl rfl rfl (Nat.le_of_ble_eq_true rfl) rfl rfl (Nat.le_of_ble_eq_true rfl) (ty_rcS S (List.mem_of_getElem? (i := 5) rfl))) (Nat.le_of_ble_eq_true rfl) S (ty_tagOf (by omega) n1) ?_
  intro x hh σu S f P
  obtain ⟨g1, g2⟩ := P
  rw [g2] at S
  rw [g1, nr, e1]
  clear g1 g2
  replace fr := mi_Fm_tr fr f
  refine mi_wp_p (pc' := 9) (l' := [(3, .int (Int32.ofInt 5)), (0, .ref 52), (1, .int (Int32.ofInt nd)), (2, .int (Int32.ofInt 0))]) (st' := []) rfl rfl rfl ?_
  refine mi_wp_p (pc' := 10) (st' := [.ref 52]) rfl rfl rfl ?_
  refine ty_s_gr S rfl rfl rfl (List.mem_of_getElem? (i := 64) rfl) ?_
  refine mi_wp_p (pc' := 14) (st' := [.int (Int32.ofInt nd), .ref 9]) rfl rfl rfl ?_
  refine mi_wp_p (pc' := 15) (st' := [.int (Int32.ofInt 0), .int (Int32.ofInt nd), .ref 9]) rfl rfl rfl ?_
  refine ty_s_ci rfl rfl rfl rfl rfl rfl (mi_cal_v2 (np := 2) (args := [.ref 9, .int (Int32.ofInt nd), .int (Int32.ofInt 0)]) (rest := []) rfl rfl rfl rfl rfl (Nat.le_of_ble_eq_true rfl) rfl rfl (Nat.le_of_ble_eq_true rfl) (ty_rcS S (List.mem_of_getElem? (i := 5) rfl))) (Nat.le_of_ble_eq_true rfl) S (ty_kidOf n0 n1 (by omega) (by rw [nr]; exact hk)) ?_
  intro x hh σu S f P
  obtain ⟨g1, g2⟩ := P
  rw [g2] at S
  rw [nr] at g1
  rw [show x = (ty_K' σ nd 0) from g1]
  clear g1 g2
  replace fr := mi_Fm_tr fr f
  refine mi_wp_p (pc' := 20) (l' := [(4, .int (Int32.ofInt (ty_K' σ nd 0))), (3, .int (Int32.ofInt 5)), (0, .ref 52), (1, .int (Int32.ofInt nd)), (2, .int (Int32.ofInt 0))]) (st' := []) rfl rfl rfl ?_
  refine mi_wp_p (pc' := 21) (st' := [.ref 52]) rfl rfl rfl ?_
  refine ty_s_gr S rfl rfl rfl (List.mem_of_getElem? (i := 64) rfl) ?_
  refine mi_wp_p (pc' := 26) (st' := [.int (Int32.ofInt (ty_K' σ nd 0)), .ref 9]) rfl rfl rfl ?_
  refine ty_s_ci rfl rfl rfl rfl rfl rfl (mi_cal_v2 (np := 1) (args := [.ref 9, .int (Int32.ofInt (ty_K' σ nd 0))]) (rest := []) rfl rfl rfl rfl rfl (Nat.le_of_ble_eq_true rfl) rfl rfl (Nat.le_of_ble_eq_true rfl) (ty_rcS S (List.mem_of_getElem? (i := 5) rfl))) (Nat.le_of_ble_eq_true rfl) S (ty_tagOf (by omega) k1) ?_
  intro x hh σu S f P
  obtain ⟨g1, g2⟩ := P
  rw [g2] at S
  rw [g1, kr, e2]
  clear g1 g2
  replace fr := mi_Fm_tr fr f
  refine mi_wp_p (pc' := 31) (l' := [(5, .int (Int32.ofInt kt)), (4, .int (Int32.ofInt (ty_K' σ nd 0))), (3, .int (Int32.ofInt 5)), (0, .ref 52), (1, .int (Int32.ofInt nd)), (2, .int (Int32.ofInt 0))]) (st' := []) rfl rfl rfl ?_
  refine mi_wp_p (pc' := 32) (st' := [.int (Int32.ofInt 5)]) rfl rfl rfl ?_
  refine mi_wp_p (pc' := 33) (st' := [.int (Int32.ofInt 5), .int (Int32.ofInt 5)]) rfl rfl rfl ?_
  refine mi_s_if2 (t := 55) rfl rfl rfl (by unfold mi_R; omega) (by unfold mi_R; omega) (fun hc_ => absurd (show (5 : Int) ≠ 5 from hc_) (by omega)) (fun _ => ?_)
  refine mi_wp_p (pc' := 38) (st' := [.int (Int32.ofInt kt)]) rfl rfl rfl ?_
  refine mi_wp_p (pc' := 39) (st' := [.int (Int32.ofInt 5), .int (Int32.ofInt kt)]) rfl rfl rfl ?_
  refine mi_s_if2 (t := 49) rfl rfl rfl (by unfold mi_R; omega) (by unfold mi_R; omega) (fun hc_ => absurd (show kt = 5 from hc_) (by omega)) (fun _ => ?_)
  refine mi_wp_p (pc' := 44) (st' := [.int (Int32.ofInt kt)]) rfl rfl rfl ?_
  refine mi_s_k (pc' := 46) (e := 6) rfl rfl rfl (by decide +kernel) ?_
  refine mi_s_if2 (t := 53) rfl rfl rfl (by unfold mi_R; omega) (by unfold mi_R; omega) (fun _ => ?_) (fun hc_ => absurd (show kt ≠ 6 by omega) hc_)
  refine mi_wp_p (pc' := 54) (st' := [.int (Int32.ofInt 0)]) rfl rfl rfl ?_
  exact ty_s_ret S fr rfl rfl rfl rfl ⟨_, rfl, ⟨rfl, rfl⟩⟩
theorem iw_p5_1 {X : mi_X} {σ : mi_Sg} {d : Nat} {nd kt : Int} (n0 : 0 < nd) (n1 : nd < mi_sF σ 9 8) (nr : mi_sA σ 12 nd = nd) (hk : 0 ≤ ty_k σ nd 1 ∧ ty_k σ nd 1 < mi_sF σ 9 8) (e1 : mi_sA σ 10 nd = 5) (k0 : 0 < (ty_K' σ nd 1)) (k1 : (ty_K' σ nd 1) < mi_sF σ 9 8) (kr : mi_sA σ 12 (ty_K' σ nd 1) = (ty_K' σ nd 1)) (e2 : mi_sA σ 10 (ty_K' σ nd 1) = kt) (q0 : 0 ≤ kt) (q1 : kt ≤ 100) (h : kt = 5) : ty_Ci X (d + 2) mi_M153 [(0, .ref 52), (1, .int (Int32.ofInt nd)), (2, .int (Int32.ofInt 1))] σ (fun x σ' => x = 1 ∧ σ' = σ) := by
  intro h S
  have fr := mi_Fm_rf h
  have hu := ty_H_u S
  refine mi_wp_p (pc' := 1) (st' := [.ref 52]) rfl rfl rfl ?_
  refine ty_s_gr S rfl rfl rfl (List.mem_of_getElem? (i := 64) rfl) ?_
  refine mi_wp_p (pc' := 5) (st' := [.int (Int32.ofInt nd), .ref 9]) rfl rfl rfl ?_
  refine ty_s_ci rfl rfl rfl rfl rfl rfl (mi_cal_v2 (np := 1) (args := [.ref 9, .int (Int32.ofInt nd)]) (rest := []) rfl rfl rfl rfl rfl (Nat.le_of_ble_eq_true rfl) rfl rfl (Nat.le_of_ble_eq_true rfl) (ty_rcS S (List.mem_of_getElem? (i := 5) rfl))) (Nat.le_of_ble_eq_true rfl) S (ty_tagOf (by omega) n1) ?_
  intro x hh σu S f P
  obtain ⟨g1, g2⟩ := P
  rw [g2] at S
  rw [g1, nr, e1]
  clear g1 g2
  replace fr := mi_Fm_tr fr f
  refine mi_wp_p (pc' := 9) (l' := [(3, .int (Int32.ofInt 5)), (0, .ref 52), (1, .int (Int32.ofInt nd)), (2, .int (Int32.ofInt 1))]) (st' := []) rfl rfl rfl ?_
  refine mi_wp_p (pc' := 10) (st' := [.ref 52]) rfl rfl rfl ?_
  refine ty_s_gr S rfl rfl rfl (List.mem_of_getElem? (i := 64) rfl) ?_
  refine mi_wp_p (pc' := 14) (st' := [.int (Int32.ofInt nd), .ref 9]) rfl rfl rfl ?_
  refine mi_wp_p (pc' := 15) (st' := [.int (Int32.ofInt 1), .int (Int32.ofInt nd), .ref 9]) rfl rfl rfl ?_
  refine ty_s_ci rfl rfl rfl rfl rfl rfl (mi_cal_v2 (np := 2) (args := [.ref 9, .int (Int32.ofInt nd), .int (Int32.ofInt 1)]) (rest := []) rfl rfl rfl rfl rfl (Nat.le_of_ble_eq_true rfl) rfl rfl (Nat.le_of_ble_eq_true rfl) (ty_rcS S (List.mem_of_getElem? (i := 5) rfl))) (Nat.le_of_ble_eq_true rfl) S (ty_kidOf n0 n1 (by omega) (by rw [nr]; exact hk)) ?_
  intro x hh σu S f P
  obtain ⟨g1, g2⟩ := P
  rw [g2] at S
  rw [nr] at g1
  rw [show x = (ty_K' σ nd 1) from g1]
  clear g1 g2
  replace fr := mi_Fm_tr fr f
  refine mi_wp_p (pc' := 20) (l' := [(4, .int (Int32.ofInt (ty_K' σ nd 1))), (3, .int (Int32.ofInt 5)), (0, .ref 52), (1, .int (Int32.ofInt nd)), (2, .int (Int32.ofInt 1))]) (st' := []) rfl rfl rfl ?_
  refine mi_wp_p (pc' := 21) (st' := [.ref 52]) rfl rfl rfl ?_
  refine ty_s_gr S rfl rfl rfl (List.mem_of_getElem? (i := 64) rfl) ?_
  refine mi_wp_p (pc' := 26) (st' := [.int (Int32.ofInt (ty_K' σ nd 1)), .ref 9]) rfl rfl rfl ?_
  refine ty_s_ci rfl rfl rfl rfl rfl rfl (mi_cal_v2 (np := 1) (args := [.ref 9, .int (Int32.ofInt (ty_K' σ nd 1))]) (rest := []) rfl rfl rfl rfl rfl (Nat.le_of_ble_eq_true rfl) rfl rfl (Nat.le_of_ble_eq_true rfl) (ty_rcS S (List.mem_of_getElem? (i := 5) rfl))) (Nat.le_of_ble_eq_true rfl) S (ty_tagOf (by omega) k1) ?_
  intro x hh σu S f P
  obtain ⟨g1, g2⟩ := P
  rw [g2] at S
  rw [g1, kr, e2]
  clear g1 g2
  replace fr := mi_Fm_tr fr f
  refine mi_wp_p (pc' := 31) (l' := [(5, .int (Int32.ofInt kt)), (4, .int (Int32.ofInt (ty_K' σ nd 1))), (3, .int (Int32.ofInt 5)), (0, .ref 52), (1, .int (Int32.ofInt nd)), (2, .int (Int32.ofInt 1))]) (st' := []) rfl rfl rfl ?_
  refine mi_wp_p (pc' := 32) (st' := [.int (Int32.ofInt 5)]) rfl rfl rfl ?_
  refine mi_wp_p (pc' := 33) (st' := [.int (Int32.ofInt 5), .int (Int32.ofInt 5)]) rfl rfl rfl ?_
  refine mi_s_if2 (t := 55) rfl rfl rfl (by unfold mi_R; omega) (by unfold mi_R; omega) (fun hc_ => absurd (show (5 : Int) ≠ 5 from hc_) (by omega)) (fun _ => ?_)
  refine mi_wp_p (pc' := 38) (st' := [.int (Int32.ofInt kt)]) rfl rfl rfl ?_
  refine mi_wp_p (pc' := 39) (st' := [.int (Int32.ofInt 5), .int (Int32.ofInt kt)]) rfl rfl rfl ?_
  refine mi_s_if2 (t := 49) rfl rfl rfl (by unfold mi_R; omega) (by unfold mi_R; omega) (fun _ => ?_) (fun hc_ => absurd (show kt = 5 by omega) hc_)
  refine mi_wp_p (pc' := 50) (st' := [.int (Int32.ofInt 1)]) rfl rfl rfl ?_
  refine mi_wp_p (pc' := 54) rfl rfl rfl ?_
  exact ty_s_ret S fr rfl rfl rfl rfl ⟨_, rfl, ⟨rfl, rfl⟩⟩
theorem iw_p6_1 {X : mi_X} {σ : mi_Sg} {d : Nat} {nd kt : Int} (n0 : 0 < nd) (n1 : nd < mi_sF σ 9 8) (nr : mi_sA σ 12 nd = nd) (hk : 0 ≤ ty_k σ nd 1 ∧ ty_k σ nd 1 < mi_sF σ 9 8) (e1 : mi_sA σ 10 nd = 5) (k0 : 0 < (ty_K' σ nd 1)) (k1 : (ty_K' σ nd 1) < mi_sF σ 9 8) (kr : mi_sA σ 12 (ty_K' σ nd 1) = (ty_K' σ nd 1)) (e2 : mi_sA σ 10 (ty_K' σ nd 1) = kt) (q0 : 0 ≤ kt) (q1 : kt ≤ 100) (h : kt = 6) : ty_Ci X (d + 2) mi_M153 [(0, .ref 52), (1, .int (Int32.ofInt nd)), (2, .int (Int32.ofInt 1))] σ (fun x σ' => x = 1 ∧ σ' = σ) := by
  intro h S
  have fr := mi_Fm_rf h
  have hu := ty_H_u S
  refine mi_wp_p (pc' := 1) (st' := [.ref 52]) rfl rfl rfl ?_
  refine ty_s_gr S rfl rfl rfl (List.mem_of_getElem? (i := 64) rfl) ?_
  refine mi_wp_p (pc' := 5) (st' := [.int (Int32.ofInt nd), .ref 9]) rfl rfl rfl ?_
  refine ty_s_ci rfl rfl rfl rfl rfl rfl (mi_cal_v2 (np := 1) (args := [.ref 9, .int (Int32.ofInt nd)]) (rest := []) rfl rfl rfl rfl rfl (Nat.le_of_ble_eq_true rfl) rfl rfl (Nat.le_of_ble_eq_true rfl) (ty_rcS S (List.mem_of_getElem? (i := 5) rfl))) (Nat.le_of_ble_eq_true rfl) S (ty_tagOf (by omega) n1) ?_
  intro x hh σu S f P
  obtain ⟨g1, g2⟩ := P
  rw [g2] at S
  rw [g1, nr, e1]
  clear g1 g2
  replace fr := mi_Fm_tr fr f
  refine mi_wp_p (pc' := 9) (l' := [(3, .int (Int32.ofInt 5)), (0, .ref 52), (1, .int (Int32.ofInt nd)), (2, .int (Int32.ofInt 1))]) (st' := []) rfl rfl rfl ?_
  refine mi_wp_p (pc' := 10) (st' := [.ref 52]) rfl rfl rfl ?_
  refine ty_s_gr S rfl rfl rfl (List.mem_of_getElem? (i := 64) rfl) ?_
  refine mi_wp_p (pc' := 14) (st' := [.int (Int32.ofInt nd), .ref 9]) rfl rfl rfl ?_
  refine mi_wp_p (pc' := 15) (st' := [.int (Int32.ofInt 1), .int (Int32.ofInt nd), .ref 9]) rfl rfl rfl ?_
  refine ty_s_ci rfl rfl rfl rfl rfl rfl (mi_cal_v2 (np := 2) (args := [.ref 9, .int (Int32.ofInt nd), .int (Int32.ofInt 1)]) (rest := []) rfl rfl rfl rfl rfl (Nat.le_of_ble_eq_true rfl) rfl rfl (Nat.le_of_ble_eq_true rfl) (ty_rcS S (List.mem_of_getElem? (i := 5) rfl))) (Nat.le_of_ble_eq_true rfl) S (ty_kidOf n0 n1 (by omega) (by rw [nr]; exact hk)) ?_
  intro x hh σu S f P
  obtain ⟨g1, g2⟩ := P
  rw [g2] at S
  rw [nr] at g1
  rw [show x = (ty_K' σ nd 1) from g1]
  clear g1 g2
  replace fr := mi_Fm_tr fr f
  refine mi_wp_p (pc' := 20) (l' := [(4, .int (Int32.ofInt (ty_K' σ nd 1))), (3, .int (Int32.ofInt 5)), (0, .ref 52), (1, .int (Int32.ofInt nd)), (2, .int (Int32.ofInt 1))]) (st' := []) rfl rfl rfl ?_
  refine mi_wp_p (pc' := 21) (st' := [.ref 52]) rfl rfl rfl ?_
  refine ty_s_gr S rfl rfl rfl (List.mem_of_getElem? (i := 64) rfl) ?_
  refine mi_wp_p (pc' := 26) (st' := [.int (Int32.ofInt (ty_K' σ nd 1)), .ref 9]) rfl rfl rfl ?_
  refine ty_s_ci rfl rfl rfl rfl rfl rfl (mi_cal_v2 (np := 1) (args := [.ref 9, .int (Int32.ofInt (ty_K' σ nd 1))]) (rest := []) rfl rfl rfl rfl rfl (Nat.le_of_ble_eq_true rfl) rfl rfl (Nat.le_of_ble_eq_true rfl) (ty_rcS S (List.mem_of_getElem? (i := 5) rfl))) (Nat.le_of_ble_eq_true rfl) S (ty_tagOf (by omega) k1) ?_
  intro x hh σu S f P
  obtain ⟨g1, g2⟩ := P
  rw [g2] at S
  rw [g1, kr, e2]
  clear g1 g2
  replace fr := mi_Fm_tr fr f
  refine mi_wp_p (pc' := 31) (l' := [(5, .int (Int32.ofInt kt)), (4, .int (Int32.ofInt (ty_K' σ nd 1))), (3, .int (Int32.ofInt 5)), (0, .ref 52), (1, .int (Int32.ofInt nd)), (2, .int (Int32.ofInt 1))]) (st' := []) rfl rfl rfl ?_
  refine mi_wp_p (pc' := 32) (st' := [.int (Int32.ofInt 5)]) rfl rfl rfl ?_
  refine mi_wp_p (pc' := 33) (st' := [.int (Int32.ofInt 5), .int (Int32.ofInt 5)]) rfl rfl rfl ?_
  refine mi_s_if2 (t := 55) rfl rfl rfl (by unfold mi_R; omega) (by unfold mi_R; omega) (fun hc_ => absurd (show (5 : Int) ≠ 5 from hc_) (by omega)) (fun _ => ?_)
  refine mi_wp_p (pc' := 38) (st' := [.int (Int32.ofInt kt)]) rfl rfl rfl ?_
  refine mi_wp_p (pc' := 39) (st' := [.int (Int32.ofInt 5), .int (Int32.ofInt kt)]) rfl rfl rfl ?_
  refine mi_s_if2 (t := 49) rfl rfl rfl (by unfold mi_R; omega) (by unfold mi_R; omega) (fun hc_ => absurd (show kt = 5 from hc_) (by omega)) (fun _ => ?_)
  refine mi_wp_p (pc' := 44) (st' := [.int (Int32.ofInt kt)]) rfl rfl rfl ?_
  refine mi_s_k (pc' := 46) (e := 6) rfl rfl rfl (by decide +kernel) ?_
  refine mi_s_if2 (t := 53) rfl rfl rfl (by unfold mi_R; omega) (by unfold mi_R; omega) (fun hc_ => absurd (show kt ≠ 6 from hc_) (by omega)) (fun _ => ?_)
  refine mi_wp_p (pc' := 50) (st' := [.int (Int32.ofInt 1)]) rfl rfl rfl ?_
  refine mi_wp_p (pc' := 54) rfl rfl rfl ?_
  exact ty_s_ret S fr rfl rfl rfl rfl ⟨_, rfl, ⟨rfl, rfl⟩⟩
theorem iw_p0_1 {X : mi_X} {σ : mi_Sg} {d : Nat} {nd kt : Int} (n0 : 0 < nd) (n1 : nd < mi_sF σ 9 8) (nr : mi_sA σ 12 nd = nd) (hk : 0 ≤ ty_k σ nd 1 ∧ ty_k σ nd 1 < mi_sF σ 9 8) (e1 : mi_sA σ 10 nd = 5) (k0 : 0 < (ty_K' σ nd 1)) (k1 : (ty_K' σ nd 1) < mi_sF σ 9 8) (kr : mi_sA σ 12 (ty_K' σ nd 1) = (ty_K' σ nd 1)) (e2 : mi_sA σ 10 (ty_K' σ nd 1) = kt) (q0 : 0 ≤ kt) (q1 : kt ≤ 100) (h : kt ≠ 5 ∧ kt ≠ 6) : ty_Ci X (d + 2) mi_M153 [(0, .ref 52), (1, .int (Int32.ofInt nd)), (2, .int (Int32.ofInt 1))] σ (fun x σ' => x = 0 ∧ σ' = σ) := by
  intro h S
  have fr := mi_Fm_rf h
  have hu := ty_H_u S
  refine mi_wp_p (pc' := 1) (st' := [.ref 52]) rfl rfl rfl ?_
  refine ty_s_gr S rfl rfl rfl (List.mem_of_getElem? (i := 64) rfl) ?_
  refine mi_wp_p (pc' := 5) (st' := [.int (Int32.ofInt nd), .ref 9]) rfl rfl rfl ?_
  refine ty_s_ci rfl rfl rfl rfl rfl rfl (mi_cal_v2 (np := 1) (args := [.ref 9, .int (Int32.ofInt nd)]) (rest := []) rfl rfl rfl rfl rfl (Nat.le_of_ble_eq_true rfl) rfl rfl (Nat.le_of_ble_eq_true rfl) (ty_rcS S (List.mem_of_getElem? (i := 5) rfl))) (Nat.le_of_ble_eq_true rfl) S (ty_tagOf (by omega) n1) ?_
  intro x hh σu S f P
  obtain ⟨g1, g2⟩ := P
  rw [g2] at S
  rw [g1, nr, e1]
  clear g1 g2
  replace fr := mi_Fm_tr fr f
  refine mi_wp_p (pc' := 9) (l' := [(3, .int (Int32.ofInt 5)), (0, .ref 52), (1, .int (Int32.ofInt nd)), (2, .int (Int32.ofInt 1))]) (st' := []) rfl rfl rfl ?_
  refine mi_wp_p (pc' := 10) (st' := [.ref 52]) rfl rfl rfl ?_
  refine ty_s_gr S rfl rfl rfl (List.mem_of_getElem? (i := 64) rfl) ?_
  refine mi_wp_p (pc' := 14) (st' := [.int (Int32.ofInt nd), .ref 9]) rfl rfl rfl ?_
  refine mi_wp_p (pc' := 15) (st' := [.int (Int32.ofInt 1), .int (Int32.ofInt nd), .ref 9]) rfl rfl rfl ?_
  refine ty_s_ci rfl rfl rfl rfl rfl rfl (mi_cal_v2 (np := 2) (args := [.ref 9, .int (Int32.ofInt nd), .int (Int32.ofInt 1)]) (rest := []) rfl rfl rfl rfl rfl (Nat.le_of_ble_eq_true rfl) rfl rfl (Nat.le_of_ble_eq_true rfl) (ty_rcS S (List.mem_of_getElem? (i := 5) rfl))) (Nat.le_of_ble_eq_true rfl) S (ty_kidOf n0 n1 (by omega) (by rw [nr]; exact hk)) ?_
  intro x hh σu S f P
  obtain ⟨g1, g2⟩ := P
  rw [g2] at S
  rw [nr] at g1
  rw [show x = (ty_K' σ nd 1) from g1]
  clear g1 g2
  replace fr := mi_Fm_tr fr f
  refine mi_wp_p (pc' := 20) (l' := [(4, .int (Int32.ofInt (ty_K' σ nd 1))), (3, .int (Int32.ofInt 5)), (0, .ref 52), (1, .int (Int32.ofInt nd)), (2, .int (Int32.ofInt 1))]) (st' := []) rfl rfl rfl ?_
  refine mi_wp_p (pc' := 21) (st' := [.ref 52]) rfl rfl rfl ?_
  refine ty_s_gr S rfl rfl rfl (List.mem_of_getElem? (i := 64) rfl) ?_
  refine mi_wp_p (pc' := 26) (st' := [.int (Int32.ofInt (ty_K' σ nd 1)), .ref 9]) rfl rfl rfl ?_
  refine ty_s_ci rfl rfl rfl rfl rfl rfl (mi_cal_v2 (np := 1) (args := [.ref 9, .int (Int32.ofInt (ty_K' σ nd 1))]) (rest := []) rfl rfl rfl rfl rfl (Nat.le_of_ble_eq_true rfl) rfl rfl (Nat.le_of_ble_eq_true rfl) (ty_rcS S (List.mem_of_getElem? (i := 5) rfl))) (Nat.le_of_ble_eq_true rfl) S (ty_tagOf (by omega) k1) ?_
  intro x hh σu S f P
  obtain ⟨g1, g2⟩ := P
  rw [g2] at S
  rw [g1, kr, e2]
  clear g1 g2
  replace fr := mi_Fm_tr fr f
  refine mi_wp_p (pc' := 31) (l' := [(5, .int (Int32.ofInt kt)), (4, .int (Int32.ofInt (ty_K' σ nd 1))), (3, .int (Int32.ofInt 5)), (0, .ref 52), (1, .int (Int32.ofInt nd)), (2, .int (Int32.ofInt 1))]) (st' := []) rfl rfl rfl ?_
  refine mi_wp_p (pc' := 32) (st' := [.int (Int32.ofInt 5)]) rfl rfl rfl ?_
  refine mi_wp_p (pc' := 33) (st' := [.int (Int32.ofInt 5), .int (Int32.ofInt 5)]) rfl rfl rfl ?_
  refine mi_s_if2 (t := 55) rfl rfl rfl (by unfold mi_R; omega) (by unfold mi_R; omega) (fun hc_ => absurd (show (5 : Int) ≠ 5 from hc_) (by omega)) (fun _ => ?_)
  refine mi_wp_p (pc' := 38) (st' := [.int (Int32.ofInt kt)]) rfl rfl rfl ?_
  refine mi_wp_p (pc' := 39) (st' := [.int (Int32.ofInt 5), .int (Int32.ofInt kt)]) rfl rfl rfl ?_
  refine mi_s_if2 (t := 49) rfl rfl rfl (by unfold mi_R; omega) (by unfold mi_R; omega) (fun hc_ => absurd (show kt = 5 from hc_) (by omega)) (fun _ => ?_)
  refine mi_wp_p (pc' := 44) (st' := [.int (Int32.ofInt kt)]) rfl rfl rfl ?_
  refine mi_s_k (pc' := 46) (e := 6) rfl rfl rfl (by decide +kernel) ?_
  refine mi_s_if2 (t := 53) rfl rfl rfl (by unfold mi_R; omega) (by unfold mi_R; omega) (fun _ => ?_) (fun hc_ => absurd (show kt ≠ 6 by omega) hc_)
  refine mi_wp_p (pc' := 54) (st' := [.int (Int32.ofInt 0)]) rfl rfl rfl ?_
  exact ty_s_ret S fr rfl rfl rfl rfl ⟨_, rfl, ⟨rfl, rfl⟩⟩
theorem iw_f1 {X : mi_X} {σ : mi_Sg} {d : Nat} {nd kt : Int} (n0 : 0 < nd) (n1 : nd < mi_sF σ 9 8) (nr : mi_sA σ 12 nd = nd) (hk : 0 ≤ ty_k σ nd 0 ∧ ty_k σ nd 0 < mi_sF σ 9 8) (e1 : mi_sA σ 10 nd = 6) (k0 : 0 < (ty_K' σ nd 0)) (k1 : (ty_K' σ nd 0) < mi_sF σ 9 8) (kr : mi_sA σ 12 (ty_K' σ nd 0) = (ty_K' σ nd 0)) (e2 : mi_sA σ 10 (ty_K' σ nd 0) = kt) (q0 : 0 ≤ kt) (q1 : kt ≤ 100) (h : kt = 6) : ty_Ci X (d + 2) mi_M153 [(0, .ref 52), (1, .int (Int32.ofInt nd)), (2, .int (Int32.ofInt 0))] σ (fun x σ' => x = 1 ∧ σ' = σ) := by
  intro h S
  have fr := mi_Fm_rf h
  have hu := ty_H_u S
  refine mi_wp_p (pc' := 1) (st' := [.ref 52]) rfl rfl rfl ?_
  refine ty_s_gr S rfl rfl rfl (List.mem_of_getElem? (i := 64) rfl) ?_
  refine mi_wp_p (pc' := 5) (st' := [.int (Int32.ofInt nd), .ref 9]) rfl rfl rfl ?_
  refine ty_s_ci rfl rfl rfl rfl rfl rfl (mi_cal_v2 (np := 1) (args := [.ref 9, .int (Int32.ofInt nd)]) (rest := []) rfl rfl rfl rfl rfl (Nat.le_of_ble_eq_true rfl) rfl rfl (Nat.le_of_ble_eq_true rfl) (ty_rcS S (List.mem_of_getElem? (i := 5) rfl))) (Nat.le_of_ble_eq_true rfl) S (ty_tagOf (by omega) n1) ?_
  intro x hh σu S f P
  obtain ⟨g1, g2⟩ := P
  rw [g2] at S
  rw [g1, nr, e1]
  clear g1 g2
  replace fr := mi_Fm_tr fr f
  refine mi_wp_p (pc' := 9) (l' := [(3, .int (Int32.ofInt 6)), (0, .ref 52), (1, .int (Int32.ofInt nd)), (2, .int (Int32.ofInt 0))]) (st' := []) rfl rfl rfl ?_
  refine mi_wp_p (pc' := 10) (st' := [.ref 52]) rfl rfl rfl ?_
  refine ty_s_gr S rfl rfl rfl (List.mem_of_getElem? (i := 64) rfl) ?_
  refine mi_wp_p (pc' := 14) (st' := [.int (Int32.ofInt nd), .ref 9]) rfl rfl rfl ?_
  refine mi_wp_p (pc' := 15) (st' := [.int (Int32.ofInt 0), .int (Int32.ofInt nd), .ref 9]) rfl rfl rfl ?_
  refine ty_s_ci rfl rfl rfl rfl rfl rfl (mi_cal_v2 (np := 2) (args := [.ref 9, .int (Int32.ofInt nd), .int (Int32.ofInt 0)]) (rest := []) rfl rfl rfl rfl rfl (Nat.le_of_ble_eq_true rfl) rfl rfl (Nat.le_of_ble_eq_true rfl) (ty_rcS S (List.mem_of_getElem? (i := 5) rfl))) (Nat.le_of_ble_eq_true rfl) S (ty_kidOf n0 n1 (by omega) (by rw [nr]; exact hk)) ?_
  intro x hh σu S f P
  obtain ⟨g1, g2⟩ := P
  rw [g2] at S
  rw [nr] at g1
  rw [show x = (ty_K' σ nd 0) from g1]
  clear g1 g2
  replace fr := mi_Fm_tr fr f
  refine mi_wp_p (pc' := 20) (l' := [(4, .int (Int32.ofInt (ty_K' σ nd 0))), (3, .int (Int32.ofInt 6)), (0, .ref 52), (1, .int (Int32.ofInt nd)), (2, .int (Int32.ofInt 0))]) (st' := []) rfl rfl rfl ?_
  refine mi_wp_p (pc' := 21) (st' := [.ref 52]) rfl rfl rfl ?_
  refine ty_s_gr S rfl rfl rfl (List.mem_of_getElem? (i := 64) rfl) ?_
  refine mi_wp_p (pc' := 26) (st' := [.int (Int32.ofInt (ty_K' σ nd 0)), .ref 9]) rfl rfl rfl ?_
  refine ty_s_ci rfl rfl rfl rfl rfl rfl (mi_cal_v2 (np := 1) (args := [.ref 9, .int (Int32.ofInt (ty_K' σ nd 0))]) (rest := []) rfl rfl rfl rfl rfl (Nat.le_of_ble_eq_true rfl) rfl rfl (Nat.le_of_ble_eq_true rfl) (ty_rcS S (List.mem_of_getElem? (i := 5) rfl))) (Nat.le_of_ble_eq_true rfl) S (ty_tagOf (by omega) k1) ?_
  intro x hh σu S f P
  obtain ⟨g1, g2⟩ := P
  rw [g2] at S
  rw [g1, kr, e2]
  clear g1 g2
  replace fr := mi_Fm_tr fr f
  refine mi_wp_p (pc' := 31) (l' := [(5, .int (Int32.ofInt kt)), (4, .int (Int32.ofInt (ty_K' σ nd 0))), (3, .int (Int32.ofInt 6)), (0, .ref 52), (1, .int (Int32.ofInt nd)), (2, .int (Int32.ofInt 0))]) (st' := []) rfl rfl rfl ?_
  refine mi_wp_p (pc' := 32) (st' := [.int (Int32.ofInt 6)]) rfl rfl rfl ?_
  refine mi_wp_p (pc' := 33) (st' := [.int (Int32.ofInt 5), .int (Int32.ofInt 6)]) rfl rfl rfl ?_
  refine mi_s_if2 (t := 55) rfl rfl rfl (by unfold mi_R; omega) (by unfold mi_R; omega) (fun _ => ?_) (fun hc_ => absurd (show (6 : Int) ≠ 5 by omega) hc_)
  refine mi_wp_p (pc' := 56) (st' := [.int (Int32.ofInt 6)]) rfl rfl rfl ?_
  refine mi_s_k (pc' := 58) (e := 6) rfl rfl rfl (by decide +kernel) ?_
  refine mi_s_if2 (t := 78) rfl rfl rfl (by unfold mi_R; omega) (by unfold mi_R; omega) (fun hc_ => absurd (show (6 : Int) ≠ 6 from hc_) (by omega)) (fun _ => ?_)
  refine mi_wp_p (pc' := 62) (st' := [.int (Int32.ofInt 0)]) rfl rfl rfl ?_
  refine mi_s_if1 (t := 76) rfl rfl rfl (by unfold mi_R; omega) (fun hc_ => absurd (show (0 : Int) ≠ 0 from hc_) (by omega)) (fun _ => ?_)
  refine mi_wp_p (pc' := 67) (st' := [.int (Int32.ofInt kt)]) rfl rfl rfl ?_
  refine mi_s_k (pc' := 69) (e := 6) rfl rfl rfl (by decide +kernel) ?_
  refine mi_s_if2 (t := 76) rfl rfl rfl (by unfold mi_R; omega) (by unfold mi_R; omega) (fun hc_ => absurd (show kt ≠ 6 from hc_) (by omega)) (fun _ => ?_)
  refine mi_wp_p (pc' := 73) (st' := [.int (Int32.ofInt 1)]) rfl rfl rfl ?_
  refine mi_wp_p (pc' := 77) rfl rfl rfl ?_
  exact ty_s_ret S fr rfl rfl rfl rfl ⟨_, rfl, ⟨rfl, rfl⟩⟩
theorem iw_f0 {X : mi_X} {σ : mi_Sg} {d : Nat} {nd kt : Int} (n0 : 0 < nd) (n1 : nd < mi_sF σ 9 8) (nr : mi_sA σ 12 nd = nd) (hk : 0 ≤ ty_k σ nd 0 ∧ ty_k σ nd 0 < mi_sF σ 9 8) (e1 : mi_sA σ 10 nd = 6) (k0 : 0 < (ty_K' σ nd 0)) (k1 : (ty_K' σ nd 0) < mi_sF σ 9 8) (kr : mi_sA σ 12 (ty_K' σ nd 0) = (ty_K' σ nd 0)) (e2 : mi_sA σ 10 (ty_K' σ nd 0) = kt) (q0 : 0 ≤ kt) (q1 : kt ≤ 100) (h : kt ≠ 6) : ty_Ci X (d + 2) mi_M153 [(0, .ref 52), (1, .int (Int32.ofInt nd)), (2, .int (Int32.ofInt 0))] σ (fun x σ' => x = 0 ∧ σ' = σ) := by
  intro h S
  have fr := mi_Fm_rf h
  have hu := ty_H_u S
  refine mi_wp_p (pc' := 1) (st' := [.ref 52]) rfl rfl rfl ?_
  refine ty_s_gr S rfl rfl rfl (List.mem_of_getElem? (i := 64) rfl) ?_
  refine mi_wp_p (pc' := 5) (st' := [.int (Int32.ofInt nd), .ref 9]) rfl rfl rfl ?_
  refine ty_s_ci rfl rfl rfl rfl rfl rfl (mi_cal_v2 (np := 1) (args := [.ref 9, .int (Int32.ofInt nd)]) (rest := []) rfl rfl rfl rfl rfl (Nat.le_of_ble_eq_true rfl) rfl rfl (Nat.le_of_ble_eq_true rfl) (ty_rcS S (List.mem_of_getElem? (i := 5) rfl))) (Nat.le_of_ble_eq_true rfl) S (ty_tagOf (by omega) n1) ?_
  intro x hh σu S f P
  obtain ⟨g1, g2⟩ := P
  rw [g2] at S
  rw [g1, nr, e1]
  clear g1 g2
  replace fr := mi_Fm_tr fr f
  refine mi_wp_p (pc' := 9) (l' := [(3, .int (Int32.ofInt 6)), (0, .ref 52), (1, .int (Int32.ofInt nd)), (2, .int (Int32.ofInt 0))]) (st' := []) rfl rfl rfl ?_
  refine mi_wp_p (pc' := 10) (st' := [.ref 52]) rfl rfl rfl ?_
  refine ty_s_gr S rfl rfl rfl (List.mem_of_getElem? (i := 64) rfl) ?_
  refine mi_wp_p (pc' := 14) (st' := [.int (Int32.ofInt nd), .ref 9]) rfl rfl rfl ?_
  refine mi_wp_p (pc' := 15) (st' := [.int (Int32.ofInt 0), .int (Int32.ofInt nd), .ref 9]) rfl rfl rfl ?_
  refine ty_s_ci rfl rfl rfl rfl rfl rfl (mi_cal_v2 (np := 2) (args := [.ref 9, .int (Int32.ofInt nd), .int (Int32.ofInt 0)]) (rest := []) rfl rfl rfl rfl rfl (Nat.le_of_ble_eq_true rfl) rfl rfl (Nat.le_of_ble_eq_true rfl) (ty_rcS S (List.mem_of_getElem? (i := 5) rfl))) (Nat.le_of_ble_eq_true rfl) S (ty_kidOf n0 n1 (by omega) (by rw [nr]; exact hk)) ?_
  intro x hh σu S f P
  obtain ⟨g1, g2⟩ := P
  rw [g2] at S
  rw [nr] at g1
  rw [show x = (ty_K' σ nd 0) from g1]
  clear g1 g2
  replace fr := mi_Fm_tr fr f
  refine mi_wp_p (pc' := 20) (l' := [(4, .int (Int32.ofInt (ty_K' σ nd 0))), (3, .int (Int32.ofInt 6)), (0, .ref 52), (1, .int (Int32.ofInt nd)), (2, .int (Int32.ofInt 0))]) (st' := []) rfl rfl rfl ?_
  refine mi_wp_p (pc' := 21) (st' := [.ref 52]) rfl rfl rfl ?_
  refine ty_s_gr S rfl rfl rfl (List.mem_of_getElem? (i := 64) rfl) ?_
  refine mi_wp_p (pc' := 26) (st' := [.int (Int32.ofInt (ty_K' σ nd 0)), .ref 9]) rfl rfl rfl ?_
  refine ty_s_ci rfl rfl rfl rfl rfl rfl (mi_cal_v2 (np := 1) (args := [.ref 9, .int (Int32.ofInt (ty_K' σ nd 0))]) (rest := []) rfl rfl rfl rfl rfl (Nat.le_of_ble_eq_true rfl) rfl rfl (Nat.le_of_ble_eq_true rfl) (ty_rcS S (List.mem_of_getElem? (i := 5) rfl))) (Nat.le_of_ble_eq_true rfl) S (ty_tagOf (by omega) k1) ?_
  intro x hh σu S f P
  obtain ⟨g1, g2⟩ := P
  rw [g2] at S
  rw [g1, kr, e2]
  clear g1 g2
  replace fr := mi_Fm_tr fr f
  refine mi_wp_p (pc' := 31) (l' := [(5, .int (Int32.ofInt kt)), (4, .int (Int32.ofInt (ty_K' σ nd 0))), (3, .int (Int32.ofInt 6)), (0, .ref 52), (1, .int (Int32.ofInt nd)), (2, .int (Int32.ofInt 0))]) (st' := []) rfl rfl rfl ?_
  refine mi_wp_p (pc' := 32) (st' := [.int (Int32.ofInt 6)]) rfl rfl rfl ?_
  refine mi_wp_p (pc' := 33) (st' := [.int (Int32.ofInt 5), .int (Int32.ofInt 6)]) rfl rfl rfl ?_
  refine mi_s_if2 (t := 55) rfl rfl rfl (by unfold mi_R; omega) (by unfold mi_R; omega) (fun _ => ?_) (fun hc_ => absurd (show (6 : Int) ≠ 5 by omega) hc_)
  refine mi_wp_p (pc' := 56) (st' := [.int (Int32.ofInt 6)]) rfl rfl rfl ?_
  refine mi_s_k (pc' := 58) (e := 6) rfl rfl rfl (by decide +kernel) ?_
  refine mi_s_if2 (t := 78) rfl rfl rfl (by unfold mi_R; omega) (by unfold mi_R; omega) (fun hc_ => absurd (show (6 : Int) ≠ 6 from hc_) (by omega)) (fun _ => ?_)
  refine mi_wp_p (pc' := 62) (st' := [.int (Int32.ofInt 0)]) rfl rfl rfl ?_
  refine mi_s_if1 (t := 76) rfl rfl rfl (by unfold mi_R; omega) (fun hc_ => absurd (show (0 : Int) ≠ 0 from hc_) (by omega)) (fun _ => ?_)
  refine mi_wp_p (pc' := 67) (st' := [.int (Int32.ofInt kt)]) rfl rfl rfl ?_
  refine mi_s_k (pc' := 69) (e := 6) rfl rfl rfl (by decide +kernel) ?_
  refine mi_s_if2 (t := 76) rfl rfl rfl (by unfold mi_R; omega) (by unfold mi_R; omega) (fun _ => ?_) (fun hc_ => absurd (show kt ≠ 6 by omega) hc_)
  refine mi_wp_p (pc' := 77) (st' := [.int (Int32.ofInt 0)]) rfl rfl rfl ?_
  exact ty_s_ret S fr rfl rfl rfl rfl ⟨_, rfl, ⟨rfl, rfl⟩⟩
theorem iw_f2 {X : mi_X} {σ : mi_Sg} {d : Nat} {nd kt : Int} (n0 : 0 < nd) (n1 : nd < mi_sF σ 9 8) (nr : mi_sA σ 12 nd = nd) (hk : 0 ≤ ty_k σ nd 1 ∧ ty_k σ nd 1 < mi_sF σ 9 8) (e1 : mi_sA σ 10 nd = 6) (k0 : 0 < (ty_K' σ nd 1)) (k1 : (ty_K' σ nd 1) < mi_sF σ 9 8) (kr : mi_sA σ 12 (ty_K' σ nd 1) = (ty_K' σ nd 1)) (e2 : mi_sA σ 10 (ty_K' σ nd 1) = kt) (q0 : 0 ≤ kt) (q1 : kt ≤ 100)  : ty_Ci X (d + 2) mi_M153 [(0, .ref 52), (1, .int (Int32.ofInt nd)), (2, .int (Int32.ofInt 1))] σ (fun x σ' => x = 0 ∧ σ' = σ) := by
  intro h S
  have fr := mi_Fm_rf h
  have hu := ty_H_u S
  refine mi_wp_p (pc' := 1) (st' := [.ref 52]) rfl rfl rfl ?_
  refine ty_s_gr S rfl rfl rfl (List.mem_of_getElem? (i := 64) rfl) ?_
  refine mi_wp_p (pc' := 5) (st' := [.int (Int32.ofInt nd), .ref 9]) rfl rfl rfl ?_
  refine ty_s_ci rfl rfl rfl rfl rfl rfl (mi_cal_v2 (np := 1) (args := [.ref 9, .int (Int32.ofInt nd)]) (rest := []) rfl rfl rfl rfl rfl (Nat.le_of_ble_eq_true rfl) rfl rfl (Nat.le_of_ble_eq_true rfl) (ty_rcS S (List.mem_of_getElem? (i := 5) rfl))) (Nat.le_of_ble_eq_true rfl) S (ty_tagOf (by omega) n1) ?_
  intro x hh σu S f P
  obtain ⟨g1, g2⟩ := P
  rw [g2] at S
  rw [g1, nr, e1]
  clear g1 g2
  replace fr := mi_Fm_tr fr f
  refine mi_wp_p (pc' := 9) (l' := [(3, .int (Int32.ofInt 6)), (0, .ref 52), (1, .int (Int32.ofInt nd)), (2, .int (Int32.ofInt 1))]) (st' := []) rfl rfl rfl ?_
  refine mi_wp_p (pc' := 10) (st' := [.ref 52]) rfl rfl rfl ?_
  refine ty_s_gr S rfl rfl rfl (List.mem_of_getElem? (i := 64) rfl) ?_
  refine mi_wp_p (pc' := 14) (st' := [.int (Int32.ofInt nd), .ref 9]) rfl rfl rfl ?_
  refine mi_wp_p (pc' := 15) (st' := [.int (Int32.ofInt 1), .int (Int32.ofInt nd), .ref 9]) rfl rfl rfl ?_
  refine ty_s_ci rfl rfl rfl rfl rfl rfl (mi_cal_v2 (np := 2) (args := [.ref 9, .int (Int32.ofInt nd), .int (Int32.ofInt 1)]) (rest := []) rfl rfl rfl rfl rfl (Nat.le_of_ble_eq_true rfl) rfl rfl (Nat.le_of_ble_eq_true rfl) (ty_rcS S (List.mem_of_getElem? (i := 5) rfl))) (Nat.le_of_ble_eq_true rfl) S (ty_kidOf n0 n1 (by omega) (by rw [nr]; exact hk)) ?_
  intro x hh σu S f P
  obtain ⟨g1, g2⟩ := P
  rw [g2] at S
  rw [nr] at g1
  rw [show x = (ty_K' σ nd 1) from g1]
  clear g1 g2
  replace fr := mi_Fm_tr fr f
  refine mi_wp_p (pc' := 20) (l' := [(4, .int (Int32.ofInt (ty_K' σ nd 1))), (3, .int (Int32.ofInt 6)), (0, .ref 52), (1, .int (Int32.ofInt nd)), (2, .int (Int32.ofInt 1))]) (st' := []) rfl rfl rfl ?_
  refine mi_wp_p (pc' := 21) (st' := [.ref 52]) rfl rfl rfl ?_
  refine ty_s_gr S rfl rfl rfl (List.mem_of_getElem? (i := 64) rfl) ?_
  refine mi_wp_p (pc' := 26) (st' := [.int (Int32.ofInt (ty_K' σ nd 1)), .ref 9]) rfl rfl rfl ?_
  refine ty_s_ci rfl rfl rfl rfl rfl rfl (mi_cal_v2 (np := 1) (args := [.ref 9, .int (Int32.ofInt (ty_K' σ nd 1))]) (rest := []) rfl rfl rfl rfl rfl (Nat.le_of_ble_eq_true rfl) rfl rfl (Nat.le_of_ble_eq_true rfl) (ty_rcS S (List.mem_of_getElem? (i := 5) rfl))) (Nat.le_of_ble_eq_true rfl) S (ty_tagOf (by omega) k1) ?_
  intro x hh σu S f P
  obtain ⟨g1, g2⟩ := P
  rw [g2] at S
  rw [g1, kr, e2]
  clear g1 g2
  replace fr := mi_Fm_tr fr f
  refine mi_wp_p (pc' := 31) (l' := [(5, .int (Int32.ofInt kt)), (4, .int (Int32.ofInt (ty_K' σ nd 1))), (3, .int (Int32.ofInt 6)), (0, .ref 52), (1, .int (Int32.ofInt nd)), (2, .int (Int32.ofInt 1))]) (st' := []) rfl rfl rfl ?_
  refine mi_wp_p (pc' := 32) (st' := [.int (Int32.ofInt 6)]) rfl rfl rfl ?_
  refine mi_wp_p (pc' := 33) (st' := [.int (Int32.ofInt 5), .int (Int32.ofInt 6)]) rfl rfl rfl ?_
  refine mi_s_if2 (t := 55) rfl rfl rfl (by unfold mi_R; omega) (by unfold mi_R; omega) (fun _ => ?_) (fun hc_ => absurd (show (6 : Int) ≠ 5 by omega) hc_)
  refine mi_wp_p (pc' := 56) (st' := [.int (Int32.ofInt 6)]) rfl rfl rfl ?_
  refine mi_s_k (pc' := 58) (e := 6) rfl rfl rfl (by decide +kernel) ?_
  refine mi_s_if2 (t := 78) rfl rfl rfl (by unfold mi_R; omega) (by unfold mi_R; omega) (fun hc_ => absurd (show (6 : Int) ≠ 6 from hc_) (by omega)) (fun _ => ?_)
  refine mi_wp_p (pc' := 62) (st' := [.int (Int32.ofInt 1)]) rfl rfl rfl ?_
  refine mi_s_if1 (t := 76) rfl rfl rfl (by unfold mi_R; omega) (fun _ => ?_) (fun hc_ => absurd (show (1 : Int) ≠ 0 by omega) hc_)
  refine mi_wp_p (pc' := 77) (st' := [.int (Int32.ofInt 0)]) rfl rfl rfl ?_
  exact ty_s_ret S fr rfl rfl rfl rfl ⟨_, rfl, ⟨rfl, rfl⟩⟩
theorem iw_l5 {X : mi_X} {σ : mi_Sg} {d : Nat} {nd kt : Int} (n0 : 0 < nd) (n1 : nd < mi_sF σ 9 8) (nr : mi_sA σ 12 nd = nd) (hk : 0 ≤ ty_k σ nd 0 ∧ ty_k σ nd 0 < mi_sF σ 9 8) (e1 : mi_sA σ 10 nd = 9) (k0 : 0 < (ty_K' σ nd 0)) (k1 : (ty_K' σ nd 0) < mi_sF σ 9 8) (kr : mi_sA σ 12 (ty_K' σ nd 0) = (ty_K' σ nd 0)) (e2 : mi_sA σ 10 (ty_K' σ nd 0) = kt) (q0 : 0 ≤ kt) (q1 : kt ≤ 100) (h : kt = 5) : ty_Ci X (d + 2) mi_M153 [(0, .ref 52), (1, .int (Int32.ofInt nd)), (2, .int (Int32.ofInt 0))] σ (fun x σ' => x = 1 ∧ σ' = σ) := by
  intro h S
  have fr := mi_Fm_rf h
  have hu := ty_H_u S
  refine mi_wp_p (pc' := 1) (st' := [.ref 52]) rfl rfl rfl ?_
  refine ty_s_gr S rfl rfl rfl (List.mem_of_getElem? (i := 64) rfl) ?_
  refine mi_wp_p (pc' := 5) (st' := [.int (Int32.ofInt nd), .ref 9]) rfl rfl rfl ?_
  refine ty_s_ci rfl rfl rfl rfl rfl rfl (mi_cal_v2 (np := 1) (args := [.ref 9, .int (Int32.ofInt nd)]) (rest := []) rfl rfl rfl rfl rfl (Nat.le_of_ble_eq_true rfl) rfl rfl (Nat.le_of_ble_eq_true rfl) (ty_rcS S (List.mem_of_getElem? (i := 5) rfl))) (Nat.le_of_ble_eq_true rfl) S (ty_tagOf (by omega) n1) ?_
  intro x hh σu S f P
  obtain ⟨g1, g2⟩ := P
  rw [g2] at S
  rw [g1, nr, e1]
  clear g1 g2
  replace fr := mi_Fm_tr fr f
  refine mi_wp_p (pc' := 9) (l' := [(3, .int (Int32.ofInt 9)), (0, .ref 52), (1, .int (Int32.ofInt nd)), (2, .int (Int32.ofInt 0))]) (st' := []) rfl rfl rfl ?_
  refine mi_wp_p (pc' := 10) (st' := [.ref 52]) rfl rfl rfl ?_
  refine ty_s_gr S rfl rfl rfl (List.mem_of_getElem? (i := 64) rfl) ?_
  refine mi_wp_p (pc' := 14) (st' := [.int (Int32.ofInt nd), .ref 9]) rfl rfl rfl ?_
  refine mi_wp_p (pc' := 15) (st' := [.int (Int32.ofInt 0), .int (Int32.ofInt nd), .ref 9]) rfl rfl rfl ?_
  refine ty_s_ci rfl rfl rfl rfl rfl rfl (mi_cal_v2 (np := 2) (args := [.ref 9, .int (Int32.ofInt nd), .int (Int32.ofInt 0)]) (rest := []) rfl rfl rfl rfl rfl (Nat.le_of_ble_eq_true rfl) rfl rfl (Nat.le_of_ble_eq_true rfl) (ty_rcS S (List.mem_of_getElem? (i := 5) rfl))) (Nat.le_of_ble_eq_true rfl) S (ty_kidOf n0 n1 (by omega) (by rw [nr]; exact hk)) ?_
  intro x hh σu S f P
  obtain ⟨g1, g2⟩ := P
  rw [g2] at S
  rw [nr] at g1
  rw [show x = (ty_K' σ nd 0) from g1]
  clear g1 g2
  replace fr := mi_Fm_tr fr f
  refine mi_wp_p (pc' := 20) (l' := [(4, .int (Int32.ofInt (ty_K' σ nd 0))), (3, .int (Int32.ofInt 9)), (0, .ref 52), (1, .int (Int32.ofInt nd)), (2, .int (Int32.ofInt 0))]) (st' := []) rfl rfl rfl ?_
  refine mi_wp_p (pc' := 21) (st' := [.ref 52]) rfl rfl rfl ?_
  refine ty_s_gr S rfl rfl rfl (List.mem_of_getElem? (i := 64) rfl) ?_
  refine mi_wp_p (pc' := 26) (st' := [.int (Int32.ofInt (ty_K' σ nd 0)), .ref 9]) rfl rfl rfl ?_
  refine ty_s_ci rfl rfl rfl rfl rfl rfl (mi_cal_v2 (np := 1) (args := [.ref 9, .int (Int32.ofInt (ty_K' σ nd 0))]) (rest := []) rfl rfl rfl rfl rfl (Nat.le_of_ble_eq_true rfl) rfl rfl (Nat.le_of_ble_eq_true rfl) (ty_rcS S (List.mem_of_getElem? (i := 5) rfl))) (Nat.le_of_ble_eq_true rfl) S (ty_tagOf (by omega) k1) ?_
  intro x hh σu S f P
  obtain ⟨g1, g2⟩ := P
  rw [g2] at S
  rw [g1, kr, e2]
  clear g1 g2
  replace fr := mi_Fm_tr fr f
  refine mi_wp_p (pc' := 31) (l' := [(5, .int (Int32.ofInt kt)), (4, .int (Int32.ofInt (ty_K' σ nd 0))), (3, .int (Int32.ofInt 9)), (0, .ref 52), (1, .int (Int32.ofInt nd)), (2, .int (Int32.ofInt 0))]) (st' := []) rfl rfl rfl ?_
  refine mi_wp_p (pc' := 32) (st' := [.int (Int32.ofInt 9)]) rfl rfl rfl ?_
  refine mi_wp_p (pc' := 33) (st' := [.int (Int32.ofInt 5), .int (Int32.ofInt 9)]) rfl rfl rfl ?_
  refine mi_s_if2 (t := 55) rfl rfl rfl (by unfold mi_R; omega) (by unfold mi_R; omega) (fun _ => ?_) (fun hc_ => absurd (show (9 : Int) ≠ 5 by omega) hc_)
  refine mi_wp_p (pc' := 56) (st' := [.int (Int32.ofInt 9)]) rfl rfl rfl ?_
  refine mi_s_k (pc' := 58) (e := 6) rfl rfl rfl (by decide +kernel) ?_
  refine mi_s_if2 (t := 78) rfl rfl rfl (by unfold mi_R; omega) (by unfold mi_R; omega) (fun _ => ?_) (fun hc_ => absurd (show (9 : Int) ≠ 6 by omega) hc_)
  refine mi_wp_p (pc' := 80) (st' := [.int (Int32.ofInt kt)]) rfl rfl rfl ?_
  refine mi_wp_p (pc' := 81) (st' := [.int (Int32.ofInt 5), .int (Int32.ofInt kt)]) rfl rfl rfl ?_
  refine mi_s_if2 (t := 111) rfl rfl rfl (by unfold mi_R; omega) (by unfold mi_R; omega) (fun _ => ?_) (fun hc_ => absurd (show kt = 5 by omega) hc_)
  refine mi_wp_p (pc' := 112) (st' := [.int (Int32.ofInt 1)]) rfl rfl rfl ?_
  refine mi_wp_p (pc' := 116) rfl rfl rfl ?_
  exact ty_s_ret S fr rfl rfl rfl rfl ⟨_, rfl, ⟨rfl, rfl⟩⟩
theorem iw_l6 {X : mi_X} {σ : mi_Sg} {d : Nat} {nd kt : Int} (n0 : 0 < nd) (n1 : nd < mi_sF σ 9 8) (nr : mi_sA σ 12 nd = nd) (hk : 0 ≤ ty_k σ nd 0 ∧ ty_k σ nd 0 < mi_sF σ 9 8) (e1 : mi_sA σ 10 nd = 9) (k0 : 0 < (ty_K' σ nd 0)) (k1 : (ty_K' σ nd 0) < mi_sF σ 9 8) (kr : mi_sA σ 12 (ty_K' σ nd 0) = (ty_K' σ nd 0)) (e2 : mi_sA σ 10 (ty_K' σ nd 0) = kt) (q0 : 0 ≤ kt) (q1 : kt ≤ 100) (h : kt = 6) : ty_Ci X (d + 2) mi_M153 [(0, .ref 52), (1, .int (Int32.ofInt nd)), (2, .int (Int32.ofInt 0))] σ (fun x σ' => x = 1 ∧ σ' = σ) := by
  intro h S
  have fr := mi_Fm_rf h
  have hu := ty_H_u S
  refine mi_wp_p (pc' := 1) (st' := [.ref 52]) rfl rfl rfl ?_
  refine ty_s_gr S rfl rfl rfl (List.mem_of_getElem? (i := 64) rfl) ?_
  refine mi_wp_p (pc' := 5) (st' := [.int (Int32.ofInt nd), .ref 9]) rfl rfl rfl ?_
  refine ty_s_ci rfl rfl rfl rfl rfl rfl (mi_cal_v2 (np := 1) (args := [.ref 9, .int (Int32.ofInt nd)]) (rest := []) rfl rfl rfl rfl rfl (Nat.le_of_ble_eq_true rfl) rfl rfl (Nat.le_of_ble_eq_true rfl) (ty_rcS S (List.mem_of_getElem? (i := 5) rfl))) (Nat.le_of_ble_eq_true rfl) S (ty_tagOf (by omega) n1) ?_
  intro x hh σu S f P
  obtain ⟨g1, g2⟩ := P
  rw [g2] at S
  rw [g1, nr, e1]
  clear g1 g2
  replace fr := mi_Fm_tr fr f
  refine mi_wp_p (pc' := 9) (l' := [(3, .int (Int32.ofInt 9)), (0, .ref 52), (1, .int (Int32.ofInt nd)), (2, .int (Int32.ofInt 0))]) (st' := []) rfl rfl rfl ?_
  refine mi_wp_p (pc' := 10) (st' := [.ref 52]) rfl rfl rfl ?_
  refine ty_s_gr S rfl rfl rfl (List.mem_of_getElem? (i := 64) rfl) ?_
  refine mi_wp_p (pc' := 14) (st' := [.int (Int32.ofInt nd), .ref 9]) rfl rfl rfl ?_
  refine mi_wp_p (pc' := 15) (st' := [.int (Int32.ofInt 0), .int (Int32.ofInt nd), .ref 9]) rfl rfl rfl ?_
  refine ty_s_ci rfl rfl rfl rfl rfl rfl (mi_cal_v2 (np := 2) (args := [.ref 9, .int (Int32.ofInt nd), .int (Int32.ofInt 0)]) (rest := []) rfl rfl rfl rfl rfl (Nat.le_of_ble_eq_true rfl) rfl rfl (Nat.le_of_ble_eq_true rfl) (ty_rcS S (List.mem_of_getElem? (i := 5) rfl))) (Nat.le_of_ble_eq_true rfl) S (ty_kidOf n0 n1 (by omega) (by rw [nr]; exact hk)) ?_
  intro x hh σu S f P
  obtain ⟨g1, g2⟩ := P
  rw [g2] at S
  rw [nr] at g1
  rw [show x = (ty_K' σ nd 0) from g1]
  clear g1 g2
  replace fr := mi_Fm_tr fr f
  refine mi_wp_p (pc' := 20) (l' := [(4, .int (Int32.ofInt (ty_K' σ nd 0))), (3, .int (Int32.ofInt 9)), (0, .ref 52), (1, .int (Int32.ofInt nd)), (2, .int (Int32.ofInt 0))]) (st' := []) rfl rfl rfl ?_
  refine mi_wp_p (pc' := 21) (st' := [.ref 52]) rfl rfl rfl ?_
  refine ty_s_gr S rfl rfl rfl (List.mem_of_getElem? (i := 64) rfl) ?_
  refine mi_wp_p (pc' := 26) (st' := [.int (Int32.ofInt (ty_K' σ nd 0)), .ref 9]) rfl rfl rfl ?_
  refine ty_s_ci rfl rfl rfl rfl rfl rfl (mi_cal_v2 (np := 1) (args := [.ref 9, .int (Int32.ofInt (ty_K' σ nd 0))]) (rest := []) rfl rfl rfl rfl rfl (Nat.le_of_ble_eq_true rfl) rfl rfl (Nat.le_of_ble_eq_true rfl) (ty_rcS S (List.mem_of_getElem? (i := 5) rfl))) (Nat.le_of_ble_eq_true rfl) S (ty_tagOf (by omega) k1) ?_
  intro x hh σu S f P
  obtain ⟨g1, g2⟩ := P
  rw [g2] at S
  rw [g1, kr, e2]
  clear g1 g2
  replace fr := mi_Fm_tr fr f
  refine mi_wp_p (pc' := 31) (l' := [(5, .int (Int32.ofInt kt)), (4, .int (Int32.ofInt (ty_K' σ nd 0))), (3, .int (Int32.ofInt 9)), (0, .ref 52), (1, .int (Int32.ofInt nd)), (2, .int (Int32.ofInt 0))]) (st' := []) rfl rfl rfl ?_
  refine mi_wp_p (pc' := 32) (st' := [.int (Int32.ofInt 9)]) rfl rfl rfl ?_
  refine mi_wp_p (pc' := 33) (st' := [.int (Int32.ofInt 5), .int (Int32.ofInt 9)]) rfl rfl rfl ?_
  refine mi_s_if2 (t := 55) rfl rfl rfl (by unfold mi_R; omega) (by unfold mi_R; omega) (fun _ => ?_) (fun hc_ => absurd (show (9 : Int) ≠ 5 by omega) hc_)
  refine mi_wp_p (pc' := 56) (st' := [.int (Int32.ofInt 9)]) rfl rfl rfl ?_
  refine mi_s_k (pc' := 58) (e := 6) rfl rfl rfl (by decide +kernel) ?_
  refine mi_s_if2 (t := 78) rfl rfl rfl (by unfold mi_R; omega) (by unfold mi_R; omega) (fun _ => ?_) (fun hc_ => absurd (show (9 : Int) ≠ 6 by omega) hc_)
  refine mi_wp_p (pc' := 80) (st' := [.int (Int32.ofInt kt)]) rfl rfl rfl ?_
  refine mi_wp_p (pc' := 81) (st' := [.int (Int32.ofInt 5), .int (Int32.ofInt kt)]) rfl rfl rfl ?_
  refine mi_s_if2 (t := 111) rfl rfl rfl (by unfold mi_R; omega) (by unfold mi_R; omega) (fun hc_ => absurd (show kt = 5 from hc_) (by omega)) (fun _ => ?_)
  refine mi_wp_p (pc' := 86) (st' := [.int (Int32.ofInt kt)]) rfl rfl rfl ?_
  refine mi_s_k (pc' := 88) (e := 6) rfl rfl rfl (by decide +kernel) ?_
  refine mi_s_if2 (t := 111) rfl rfl rfl (by unfold mi_R; omega) (by unfold mi_R; omega) (fun _ => ?_) (fun hc_ => absurd (show kt = 6 by omega) hc_)
  refine mi_wp_p (pc' := 112) (st' := [.int (Int32.ofInt 1)]) rfl rfl rfl ?_
  refine mi_wp_p (pc' := 116) rfl rfl rfl ?_
  exact ty_s_ret S fr rfl rfl rfl rfl ⟨_, rfl, ⟨rfl, rfl⟩⟩
theorem iw_l9 {X : mi_X} {σ : mi_Sg} {d : Nat} {nd kt : Int} (n0 : 0 < nd) (n1 : nd < mi_sF σ 9 8) (nr : mi_sA σ 12 nd = nd) (hk : 0 ≤ ty_k σ nd 0 ∧ ty_k σ nd 0 < mi_sF σ 9 8) (e1 : mi_sA σ 10 nd = 9) (k0 : 0 < (ty_K' σ nd 0)) (k1 : (ty_K' σ nd 0) < mi_sF σ 9 8) (kr : mi_sA σ 12 (ty_K' σ nd 0) = (ty_K' σ nd 0)) (e2 : mi_sA σ 10 (ty_K' σ nd 0) = kt) (q0 : 0 ≤ kt) (q1 : kt ≤ 100) (hk2 : 0 ≤ ty_k σ (ty_K' σ nd 0) 0 ∧ ty_k σ (ty_K' σ nd 0) 0 < mi_sF σ 9 8) (k3 : 0 < ty_K' σ (ty_K' σ nd 0) 0) (k4 : ty_K' σ (ty_K' σ nd 0) 0 < mi_sF σ 9 8) (h : kt = 9) : ty_Ci X (d + 2) mi_M153 [(0, .ref 52), (1, .int (Int32.ofInt nd)), (2, .int (Int32.ofInt 0))] σ (fun x σ' => x = 1 ∧ σ' = σ) := by
  intro h S
  have fr := mi_Fm_rf h
  have hu := ty_H_u S
  refine mi_wp_p (pc' := 1) (st' := [.ref 52]) rfl rfl rfl ?_
  refine ty_s_gr S rfl rfl rfl (List.mem_of_getElem? (i := 64) rfl) ?_
  refine mi_wp_p (pc' := 5) (st' := [.int (Int32.ofInt nd), .ref 9]) rfl rfl rfl ?_
  refine ty_s_ci rfl rfl rfl rfl rfl rfl (mi_cal_v2 (np := 1) (args := [.ref 9, .int (Int32.ofInt nd)]) (rest := []) rfl rfl rfl rfl rfl (Nat.le_of_ble_eq_true rfl) rfl rfl (Nat.le_of_ble_eq_true rfl) (ty_rcS S (List.mem_of_getElem? (i := 5) rfl))) (Nat.le_of_ble_eq_true rfl) S (ty_tagOf (by omega) n1) ?_
  intro x hh σu S f P
  obtain ⟨g1, g2⟩ := P
  rw [g2] at S
  rw [g1, nr, e1]
  clear g1 g2
  replace fr := mi_Fm_tr fr f
  refine mi_wp_p (pc' := 9) (l' := [(3, .int (Int32.ofInt 9)), (0, .ref 52), (1, .int (Int32.ofInt nd)), (2, .int (Int32.ofInt 0))]) (st' := []) rfl rfl rfl ?_
  refine mi_wp_p (pc' := 10) (st' := [.ref 52]) rfl rfl rfl ?_
  refine ty_s_gr S rfl rfl rfl (List.mem_of_getElem? (i := 64) rfl) ?_
  refine mi_wp_p (pc' := 14) (st' := [.int (Int32.ofInt nd), .ref 9]) rfl rfl rfl ?_
  refine mi_wp_p (pc' := 15) (st' := [.int (Int32.ofInt 0), .int (Int32.ofInt nd), .ref 9]) rfl rfl rfl ?_
  refine ty_s_ci rfl rfl rfl rfl rfl rfl (mi_cal_v2 (np := 2) (args := [.ref 9, .int (Int32.ofInt nd), .int (Int32.ofInt 0)]) (rest := []) rfl rfl rfl rfl rfl (Nat.le_of_ble_eq_true rfl) rfl rfl (Nat.le_of_ble_eq_true rfl) (ty_rcS S (List.mem_of_getElem? (i := 5) rfl))) (Nat.le_of_ble_eq_true rfl) S (ty_kidOf n0 n1 (by omega) (by rw [nr]; exact hk)) ?_
  intro x hh σu S f P
  obtain ⟨g1, g2⟩ := P
  rw [g2] at S
  rw [nr] at g1
  rw [show x = (ty_K' σ nd 0) from g1]
  clear g1 g2
  replace fr := mi_Fm_tr fr f
  refine mi_wp_p (pc' := 20) (l' := [(4, .int (Int32.ofInt (ty_K' σ nd 0))), (3, .int (Int32.ofInt 9)), (0, .ref 52), (1, .int (Int32.ofInt nd)), (2, .int (Int32.ofInt 0))]) (st' := []) rfl rfl rfl ?_
  refine mi_wp_p (pc' := 21) (st' := [.ref 52]) rfl rfl rfl ?_
  refine ty_s_gr S rfl rfl rfl (List.mem_of_getElem? (i := 64) rfl) ?_
  refine mi_wp_p (pc' := 26) (st' := [.int (Int32.ofInt (ty_K' σ nd 0)), .ref 9]) rfl rfl rfl ?_
  refine ty_s_ci rfl rfl rfl rfl rfl rfl (mi_cal_v2 (np := 1) (args := [.ref 9, .int (Int32.ofInt (ty_K' σ nd 0))]) (rest := []) rfl rfl rfl rfl rfl (Nat.le_of_ble_eq_true rfl) rfl rfl (Nat.le_of_ble_eq_true rfl) (ty_rcS S (List.mem_of_getElem? (i := 5) rfl))) (Nat.le_of_ble_eq_true rfl) S (ty_tagOf (by omega) k1) ?_
  intro x hh σu S f P
  obtain ⟨g1, g2⟩ := P
  rw [g2] at S
  rw [g1, kr, e2]
  clear g1 g2
  replace fr := mi_Fm_tr fr f
  refine mi_wp_p (pc' := 31) (l' := [(5, .int (Int32.ofInt kt)), (4, .int (Int32.ofInt (ty_K' σ nd 0))), (3, .int (Int32.ofInt 9)), (0, .ref 52), (1, .int (Int32.ofInt nd)), (2, .int (Int32.ofInt 0))]) (st' := []) rfl rfl rfl ?_
  refine mi_wp_p (pc' := 32) (st' := [.int (Int32.ofInt 9)]) rfl rfl rfl ?_
  refine mi_wp_p (pc' := 33) (st' := [.int (Int32.ofInt 5), .int (Int32.ofInt 9)]) rfl rfl rfl ?_
  refine mi_s_if2 (t := 55) rfl rfl rfl (by unfold mi_R; omega) (by unfold mi_R; omega) (fun _ => ?_) (fun hc_ => absurd (show (9 : Int) ≠ 5 by omega) hc_)
  refine mi_wp_p (pc' := 56) (st' := [.int (Int32.ofInt 9)]) rfl rfl rfl ?_
  refine mi_s_k (pc' := 58) (e := 6) rfl rfl rfl (by decide +kernel) ?_
  refine mi_s_if2 (t := 78) rfl rfl rfl (by unfold mi_R; omega) (by unfold mi_R; omega) (fun _ => ?_) (fun hc_ => absurd (show (9 : Int) ≠ 6 by omega) hc_)
  refine mi_wp_p (pc' := 80) (st' := [.int (Int32.ofInt kt)]) rfl rfl rfl ?_
  refine mi_wp_p (pc' := 81) (st' := [.int (Int32.ofInt 5), .int (Int32.ofInt kt)]) rfl rfl rfl ?_
  refine mi_s_if2 (t := 111) rfl rfl rfl (by unfold mi_R; omega) (by unfold mi_R; omega) (fun hc_ => absurd (show kt = 5 from hc_) (by omega)) (fun _ => ?_)
  refine mi_wp_p (pc' := 86) (st' := [.int (Int32.ofInt kt)]) rfl rfl rfl ?_
  refine mi_s_k (pc' := 88) (e := 6) rfl rfl rfl (by decide +kernel) ?_
  refine mi_s_if2 (t := 111) rfl rfl rfl (by unfold mi_R; omega) (by unfold mi_R; omega) (fun hc_ => absurd (show kt = 6 from hc_) (by omega)) (fun _ => ?_)
  refine mi_wp_p (pc' := 93) (st' := [.int (Int32.ofInt kt)]) rfl rfl rfl ?_
  refine mi_s_k (pc' := 95) (e := 7) rfl rfl rfl (by decide +kernel) ?_
  refine mi_s_if2 (t := 115) rfl rfl rfl (by unfold mi_R; omega) (by unfold mi_R; omega) (fun hc_ => absurd (show kt < 7 from hc_) (by omega)) (fun _ => ?_)
  refine mi_wp_p (pc' := 99) (st' := [.ref 52]) rfl rfl rfl ?_
  refine ty_s_gr S rfl rfl rfl (List.mem_of_getElem? (i := 64) rfl) ?_
  refine mi_wp_p (pc' := 104) (st' := [.int (Int32.ofInt (ty_K' σ nd 0)), .ref 9]) rfl rfl rfl ?_
  refine mi_wp_p (pc' := 105) (st' := [.int (Int32.ofInt 0), .int (Int32.ofInt (ty_K' σ nd 0)), .ref 9]) rfl rfl rfl ?_
  refine ty_s_ci rfl rfl rfl rfl rfl rfl (mi_cal_v2 (np := 2) (args := [.ref 9, .int (Int32.ofInt (ty_K' σ nd 0)), .int (Int32.ofInt 0)]) (rest := []) rfl rfl rfl rfl rfl (Nat.le_of_ble_eq_true rfl) rfl rfl (Nat.le_of_ble_eq_true rfl) (ty_rcS S (List.mem_of_getElem? (i := 5) rfl))) (Nat.le_of_ble_eq_true rfl) S (ty_kidOf k0 k1 (by omega) (by rw [kr]; exact hk2)) ?_
  intro x hh σu S f P
  obtain ⟨g1, g2⟩ := P
  rw [g2] at S
  rw [kr] at g1
  rw [show x = ty_K' σ (ty_K' σ nd 0) 0 from g1]
  clear g1 g2
  replace fr := mi_Fm_tr fr f
  refine mi_s_if1 (t := 115) rfl rfl rfl (by unfold mi_R; omega) (fun hc_ => absurd (show (ty_K' σ (ty_K' σ nd 0) 0) = 0 from hc_) (by omega)) (fun _ => ?_)
  refine mi_wp_p (pc' := 112) (st' := [.int (Int32.ofInt 1)]) rfl rfl rfl ?_
  refine mi_wp_p (pc' := 116) rfl rfl rfl ?_
  exact ty_s_ret S fr rfl rfl rfl rfl ⟨_, rfl, ⟨rfl, rfl⟩⟩
theorem iw_l0 {X : mi_X} {σ : mi_Sg} {d : Nat} {nd kt : Int} (n0 : 0 < nd) (n1 : nd < mi_sF σ 9 8) (nr : mi_sA σ 12 nd = nd) (hk : 0 ≤ ty_k σ nd 0 ∧ ty_k σ nd 0 < mi_sF σ 9 8) (e1 : mi_sA σ 10 nd = 9) (k0 : 0 < (ty_K' σ nd 0)) (k1 : (ty_K' σ nd 0) < mi_sF σ 9 8) (kr : mi_sA σ 12 (ty_K' σ nd 0) = (ty_K' σ nd 0)) (e2 : mi_sA σ 10 (ty_K' σ nd 0) = kt) (q0 : 0 ≤ kt) (q1 : kt ≤ 100) (h : kt < 5) : ty_Ci X (d + 2) mi_M153 [(0, .ref 52), (1, .int (Int32.ofInt nd)), (2, .int (Int32.ofInt 0))] σ (fun x σ' => x = 0 ∧ σ' = σ) := by
  intro h S
  have fr := mi_Fm_rf h
  have hu := ty_H_u S
  refine mi_wp_p (pc' := 1) (st' := [.ref 52]) rfl rfl rfl ?_
  refine ty_s_gr S rfl rfl rfl (List.mem_of_getElem? (i := 64) rfl) ?_
  refine mi_wp_p (pc' := 5) (st' := [.int (Int32.ofInt nd), .ref 9]) rfl rfl rfl ?_
  refine ty_s_ci rfl rfl rfl rfl rfl rfl (mi_cal_v2 (np := 1) (args := [.ref 9, .int (Int32.ofInt nd)]) (rest := []) rfl rfl rfl rfl rfl (Nat.le_of_ble_eq_true rfl) rfl rfl (Nat.le_of_ble_eq_true rfl) (ty_rcS S (List.mem_of_getElem? (i := 5) rfl))) (Nat.le_of_ble_eq_true rfl) S (ty_tagOf (by omega) n1) ?_
  intro x hh σu S f P
  obtain ⟨g1, g2⟩ := P
  rw [g2] at S
  rw [g1, nr, e1]
  clear g1 g2
  replace fr := mi_Fm_tr fr f
  refine mi_wp_p (pc' := 9) (l' := [(3, .int (Int32.ofInt 9)), (0, .ref 52), (1, .int (Int32.ofInt nd)), (2, .int (Int32.ofInt 0))]) (st' := []) rfl rfl rfl ?_
  refine mi_wp_p (pc' := 10) (st' := [.ref 52]) rfl rfl rfl ?_
  refine ty_s_gr S rfl rfl rfl (List.mem_of_getElem? (i := 64) rfl) ?_
  refine mi_wp_p (pc' := 14) (st' := [.int (Int32.ofInt nd), .ref 9]) rfl rfl rfl ?_
  refine mi_wp_p (pc' := 15) (st' := [.int (Int32.ofInt 0), .int (Int32.ofInt nd), .ref 9]) rfl rfl rfl ?_
  refine ty_s_ci rfl rfl rfl rfl rfl rfl (mi_cal_v2 (np := 2) (args := [.ref 9, .int (Int32.ofInt nd), .int (Int32.ofInt 0)]) (rest := []) rfl rfl rfl rfl rfl (Nat.le_of_ble_eq_true rfl) rfl rfl (Nat.le_of_ble_eq_true rfl) (ty_rcS S (List.mem_of_getElem? (i := 5) rfl))) (Nat.le_of_ble_eq_true rfl) S (ty_kidOf n0 n1 (by omega) (by rw [nr]; exact hk)) ?_
  intro x hh σu S f P
  obtain ⟨g1, g2⟩ := P
  rw [g2] at S
  rw [nr] at g1
  rw [show x = (ty_K' σ nd 0) from g1]
  clear g1 g2
  replace fr := mi_Fm_tr fr f
  refine mi_wp_p (pc' := 20) (l' := [(4, .int (Int32.ofInt (ty_K' σ nd 0))), (3, .int (Int32.ofInt 9)), (0, .ref 52), (1, .int (Int32.ofInt nd)), (2, .int (Int32.ofInt 0))]) (st' := []) rfl rfl rfl ?_
  refine mi_wp_p (pc' := 21) (st' := [.ref 52]) rfl rfl rfl ?_
  refine ty_s_gr S rfl rfl rfl (List.mem_of_getElem? (i := 64) rfl) ?_
  refine mi_wp_p (pc' := 26) (st' := [.int (Int32.ofInt (ty_K' σ nd 0)), .ref 9]) rfl rfl rfl ?_
  refine ty_s_ci rfl rfl rfl rfl rfl rfl (mi_cal_v2 (np := 1) (args := [.ref 9, .int (Int32.ofInt (ty_K' σ nd 0))]) (rest := []) rfl rfl rfl rfl rfl (Nat.le_of_ble_eq_true rfl) rfl rfl (Nat.le_of_ble_eq_true rfl) (ty_rcS S (List.mem_of_getElem? (i := 5) rfl))) (Nat.le_of_ble_eq_true rfl) S (ty_tagOf (by omega) k1) ?_
  intro x hh σu S f P
  obtain ⟨g1, g2⟩ := P
  rw [g2] at S
  rw [g1, kr, e2]
  clear g1 g2
  replace fr := mi_Fm_tr fr f
  refine mi_wp_p (pc' := 31) (l' := [(5, .int (Int32.ofInt kt)), (4, .int (Int32.ofInt (ty_K' σ nd 0))), (3, .int (Int32.ofInt 9)), (0, .ref 52), (1, .int (Int32.ofInt nd)), (2, .int (Int32.ofInt 0))]) (st' := []) rfl rfl rfl ?_
  refine mi_wp_p (pc' := 32) (st' := [.int (Int32.ofInt 9)]) rfl rfl rfl ?_
  refine mi_wp_p (pc' := 33) (st' := [.int (Int32.ofInt 5), .int (Int32.ofInt 9)]) rfl rfl rfl ?_
  refine mi_s_if2 (t := 55) rfl rfl rfl (by unfold mi_R; omega) (by unfold mi_R; omega) (fun _ => ?_) (fun hc_ => absurd (show (9 : Int) ≠ 5 by omega) hc_)
  refine mi_wp_p (pc' := 56) (st' := [.int (Int32.ofInt 9)]) rfl rfl rfl ?_
  refine mi_s_k (pc' := 58) (e := 6) rfl rfl rfl (by decide +kernel) ?_
  refine mi_s_if2 (t := 78) rfl rfl rfl (by unfold mi_R; omega) (by unfold mi_R; omega) (fun _ => ?_) (fun hc_ => absurd (show (9 : Int) ≠ 6 by omega) hc_)
  refine mi_wp_p (pc' := 80) (st' := [.int (Int32.ofInt kt)]) rfl rfl rfl ?_
  refine mi_wp_p (pc' := 81) (st' := [.int (Int32.ofInt 5), .int (Int32.ofInt kt)]) rfl rfl rfl ?_
  refine mi_s_if2 (t := 111) rfl rfl rfl (by unfold mi_R; omega) (by unfold mi_R; omega) (fun hc_ => absurd (show kt = 5 from hc_) (by omega)) (fun _ => ?_)
  refine mi_wp_p (pc' := 86) (st' := [.int (Int32.ofInt kt)]) rfl rfl rfl ?_
  refine mi_s_k (pc' := 88) (e := 6) rfl rfl rfl (by decide +kernel) ?_
  refine mi_s_if2 (t := 111) rfl rfl rfl (by unfold mi_R; omega) (by unfold mi_R; omega) (fun hc_ => absurd (show kt = 6 from hc_) (by omega)) (fun _ => ?_)
  refine mi_wp_p (pc' := 93) (st' := [.int (Int32.ofInt kt)]) rfl rfl rfl ?_
  refine mi_s_k (pc' := 95) (e := 7) rfl rfl rfl (by decide +kernel) ?_
  refine mi_s_if2 (t := 115) rfl rfl rfl (by unfold mi_R; omega) (by unfold mi_R; omega) (fun _ => ?_) (fun hc_ => absurd (show kt < 7 by omega) hc_)
  refine mi_wp_p (pc' := 116) (st' := [.int (Int32.ofInt 0)]) rfl rfl rfl ?_
  exact ty_s_ret S fr rfl rfl rfl rfl ⟨_, rfl, ⟨rfl, rfl⟩⟩
