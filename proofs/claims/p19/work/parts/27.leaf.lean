/-! ===== small methods (printed by wip/gen/p_leaf.py) ===== -/
theorem fa_clear {X : mi_X} {d : Nat} {σ : mi_Sg}  : ty_Cv X d mi_M28 [(0, .ref 2)] σ (fun σ' => σ' = mi_uF (mi_uF σ 2 0 0) 2 1 (-1)) := by
  intro h S
  have fr := mi_Fm_rf h
  refine mi_wp_p (pc' := 1) (st' := [.ref 2]) rfl rfl rfl ?_
  refine mi_wp_p (pc' := 2) (st' := [.int (Int32.ofInt 0), .ref 2]) rfl rfl rfl ?_
  refine ty_s_pf S rfl rfl rfl (List.mem_of_getElem? (i := 1) rfl) (by decide) mi_fit_int (Or.inl rfl) ?_
  intro h1 S f
  replace fr := mi_Fm_tr fr f
  refine mi_wp_p (pc' := 6) (st' := [.ref 2]) rfl rfl rfl ?_
  refine mi_wp_p (pc' := 7) (st' := [.int (Int32.ofInt (-1)), .ref 2]) rfl rfl rfl ?_
  refine ty_s_pf S rfl rfl rfl (List.mem_of_getElem? (i := 2) rfl) (by decide) mi_fit_int (Or.inl rfl) ?_
  intro h2 S f
  replace fr := mi_Fm_tr fr f
  exact ty_s_ret S fr rfl rfl rfl rfl ⟨rfl, rfl⟩
theorem fa_stands {X : mi_X} {d : Nat} {σ : mi_Sg} (h0 : mi_sF σ 2 0 = 0) : ty_Ci X d mi_M29 [(0, .ref 2)] σ (fun x σ' => x = 0 ∧ σ' = σ) := by
  intro h S
  have fr := mi_Fm_rf h
  refine mi_wp_p (pc' := 1) (st' := [.ref 2]) rfl rfl rfl ?_
  refine ty_s_gf (x := mi_sF σ 2 0) S rfl rfl rfl (List.mem_of_getElem? (i := 1) rfl) rfl ?_
  refine mi_s_if1 (t := 11) rfl rfl rfl (by unfold mi_R; omega) (fun _ => ?_) (fun hc_ => absurd (show (mi_sF σ 2 0) = 0 by omega) hc_)
  refine mi_wp_p (pc' := 12) (st' := [.int (Int32.ofInt 0)]) rfl rfl rfl ?_
  exact ty_s_ret S fr rfl rfl rfl rfl ⟨_, rfl, ⟨rfl, rfl⟩⟩
theorem st26_size {X : mi_X} {d : Nat} {σ : mi_Sg}  : ty_Ci X d mi_M102 [(0, .ref 26)] σ (fun x σ' => x = mi_sF σ 26 7 ∧ σ' = σ) := by
  intro h S
  have fr := mi_Fm_rf h
  refine mi_wp_p (pc' := 1) (st' := [.ref 26]) rfl rfl rfl ?_
  refine ty_s_gf (x := mi_sF σ 26 7) S rfl rfl rfl (List.mem_of_getElem? (i := 16) rfl) rfl ?_
  exact ty_s_ret S fr rfl rfl rfl (mi_ret_i rfl) ⟨_, rfl, ⟨rfl, rfl⟩⟩
theorem st26_clear {X : mi_X} {d : Nat} {σ : mi_Sg}  : ty_Cv X d mi_M97 [(0, .ref 26)] σ (fun σ' => σ' = mi_uF σ 26 7 0) := by
  intro h S
  have fr := mi_Fm_rf h
  refine mi_wp_p (pc' := 1) (st' := [.ref 26]) rfl rfl rfl ?_
  refine mi_wp_p (pc' := 2) (st' := [.int (Int32.ofInt 0), .ref 26]) rfl rfl rfl ?_
  refine ty_s_pf S rfl rfl rfl (List.mem_of_getElem? (i := 16) rfl) (by decide) mi_fit_int (Or.inl rfl) ?_
  intro h3 S f
  replace fr := mi_Fm_tr fr f
  exact ty_s_ret S fr rfl rfl rfl rfl ⟨rfl, rfl⟩
theorem st26_has {X : mi_X} {d : Nat} {σ : mi_Sg} {a : Int} (h0 : 0 ≤ a) (h1 : a < mi_sF σ 26 7) (h2 : mi_sF σ 26 7 ≤ 1024) : ty_Ci X d mi_M98 [(0, .ref 26), (1, .int (Int32.ofInt a))] σ (fun x σ' => x = 1 ∧ σ' = σ) := by
  intro h S
  have fr := mi_Fm_rf h
  refine mi_wp_p (pc' := 1) (st' := [.int (Int32.ofInt a)]) rfl rfl rfl ?_
  refine mi_s_if1 (t := 16) rfl rfl rfl (by unfold mi_R; omega) (fun hc_ => absurd (show a < 0 from hc_) (by omega)) (fun _ => ?_)
  refine mi_wp_p (pc' := 5) (st' := [.int (Int32.ofInt a)]) rfl rfl rfl ?_
  refine mi_wp_p (pc' := 6) (st' := [.ref 26, .int (Int32.ofInt a)]) rfl rfl rfl ?_
  refine ty_s_gf (x := mi_sF σ 26 7) S rfl rfl rfl (List.mem_of_getElem? (i := 16) rfl) rfl ?_
  refine mi_s_if2 (t := 16) rfl rfl rfl (by unfold mi_R; omega) (by unfold mi_R; omega) (fun hc_ => absurd (show (mi_sF σ 26 7) ≤ a from hc_) (by omega)) (fun _ => ?_)
  refine mi_wp_p (pc' := 13) (st' := [.int (Int32.ofInt 1)]) rfl rfl rfl ?_
  refine mi_wp_p (pc' := 17) rfl rfl rfl ?_
  exact ty_s_ret S fr rfl rfl rfl rfl ⟨_, rfl, ⟨rfl, rfl⟩⟩
theorem st26_kindOf {X : mi_X} {σ : mi_Sg} {d : Nat} {a : Int} (h0 : 0 ≤ a) (h1 : a < mi_sF σ 26 7) (h2 : mi_sF σ 26 7 ≤ 1024) : ty_Ci X (d + 1) mi_M99 [(0, .ref 26), (1, .int (Int32.ofInt a))] σ (fun x σ' => x = mi_sA σ 27 a ∧ σ' = σ) := by
  intro h S
  have fr := mi_Fm_rf h
  refine mi_wp_p (pc' := 1) (st' := [.ref 26]) rfl rfl rfl ?_
  refine mi_wp_p (pc' := 2) (st' := [.int (Int32.ofInt a), .ref 26]) rfl rfl rfl ?_
  refine ty_s_ci rfl rfl rfl rfl rfl rfl (mi_cal_v2 (np := 1) (args := [.ref 26, .int (Int32.ofInt a)]) (rest := []) rfl rfl rfl rfl rfl (Nat.le_of_ble_eq_true rfl) rfl rfl (Nat.le_of_ble_eq_true rfl) (ty_rcS S (List.mem_of_getElem? (i := 16) rfl))) (Nat.le_of_ble_eq_true rfl) S (st26_has h0 h1 h2) ?_
  intro x hh σu S f P
  obtain ⟨e1, e2⟩ := P
  rw [e2] at S
  rw [e1]
  clear e1 e2
  replace fr := mi_Fm_tr fr f
  refine mi_s_if1 (t := 17) rfl rfl rfl (by unfold mi_R; omega) (fun hc_ => absurd (show (1 : Int) = 0 from hc_) (by omega)) (fun _ => ?_)
  refine mi_wp_p (pc' := 9) (st' := [.ref 26]) rfl rfl rfl ?_
  refine ty_s_gr S rfl rfl rfl (List.mem_of_getElem? (i := 32) rfl) ?_
  refine mi_wp_p (pc' := 13) (st' := [.int (Int32.ofInt a), .ref 27]) rfl rfl rfl ?_
  refine ty_s_ald (x := mi_sA σ 27 a) S rfl rfl (List.mem_of_getElem? (i := 16) rfl) (by decide) (by omega) (by omega) rfl ?_
  refine mi_wp_p (pc' := 18) rfl rfl rfl ?_
  exact ty_s_ret S fr rfl rfl rfl (mi_ret_i rfl) ⟨_, rfl, ⟨rfl, rfl⟩⟩
theorem st26_aOf {X : mi_X} {σ : mi_Sg} {d : Nat} {a : Int} (h0 : 0 ≤ a) (h1 : a < mi_sF σ 26 7) (h2 : mi_sF σ 26 7 ≤ 1024) : ty_Ci X (d + 1) mi_M94 [(0, .ref 26), (1, .int (Int32.ofInt a))] σ (fun x σ' => x = mi_sA σ 28 a ∧ σ' = σ) := by
  intro h S
  have fr := mi_Fm_rf h
  refine mi_wp_p (pc' := 1) (st' := [.ref 26]) rfl rfl rfl ?_
  refine mi_wp_p (pc' := 2) (st' := [.int (Int32.ofInt a), .ref 26]) rfl rfl rfl ?_
  refine ty_s_ci rfl rfl rfl rfl rfl rfl (mi_cal_v2 (np := 1) (args := [.ref 26, .int (Int32.ofInt a)]) (rest := []) rfl rfl rfl rfl rfl (Nat.le_of_ble_eq_true rfl) rfl rfl (Nat.le_of_ble_eq_true rfl) (ty_rcS S (List.mem_of_getElem? (i := 16) rfl))) (Nat.le_of_ble_eq_true rfl) S (st26_has h0 h1 h2) ?_
  intro x hh σu S f P
  obtain ⟨e1, e2⟩ := P
  rw [e2] at S
  rw [e1]
  clear e1 e2
  replace fr := mi_Fm_tr fr f
  refine mi_s_if1 (t := 17) rfl rfl rfl (by unfold mi_R; omega) (fun hc_ => absurd (show (1 : Int) = 0 from hc_) (by omega)) (fun _ => ?_)
  refine mi_wp_p (pc' := 9) (st' := [.ref 26]) rfl rfl rfl ?_
  refine ty_s_gr S rfl rfl rfl (List.mem_of_getElem? (i := 33) rfl) ?_
  refine mi_wp_p (pc' := 13) (st' := [.int (Int32.ofInt a), .ref 28]) rfl rfl rfl ?_
  refine ty_s_ald (x := mi_sA σ 28 a) S rfl rfl (List.mem_of_getElem? (i := 17) rfl) (by decide) (by omega) (by omega) rfl ?_
  refine mi_wp_p (pc' := 18) rfl rfl rfl ?_
  exact ty_s_ret S fr rfl rfl rfl (mi_ret_i rfl) ⟨_, rfl, ⟨rfl, rfl⟩⟩
theorem st26_bOf {X : mi_X} {σ : mi_Sg} {d : Nat} {a : Int} (h0 : 0 ≤ a) (h1 : a < mi_sF σ 26 7) (h2 : mi_sF σ 26 7 ≤ 1024) : ty_Ci X (d + 1) mi_M96 [(0, .ref 26), (1, .int (Int32.ofInt a))] σ (fun x σ' => x = mi_sA σ 29 a ∧ σ' = σ) := by
  intro h S
  have fr := mi_Fm_rf h
  refine mi_wp_p (pc' := 1) (st' := [.ref 26]) rfl rfl rfl ?_
  refine mi_wp_p (pc' := 2) (st' := [.int (Int32.ofInt a), .ref 26]) rfl rfl rfl ?_
  refine ty_s_ci rfl rfl rfl rfl rfl rfl (mi_cal_v2 (np := 1) (args := [.ref 26, .int (Int32.ofInt a)]) (rest := []) rfl rfl rfl rfl rfl (Nat.le_of_ble_eq_true rfl) rfl rfl (Nat.le_of_ble_eq_true rfl) (ty_rcS S (List.mem_of_getElem? (i := 16) rfl))) (Nat.le_of_ble_eq_true rfl) S (st26_has h0 h1 h2) ?_
  intro x hh σu S f P
  obtain ⟨e1, e2⟩ := P
  rw [e2] at S
  rw [e1]
  clear e1 e2
  replace fr := mi_Fm_tr fr f
  refine mi_s_if1 (t := 17) rfl rfl rfl (by unfold mi_R; omega) (fun hc_ => absurd (show (1 : Int) = 0 from hc_) (by omega)) (fun _ => ?_)
  refine mi_wp_p (pc' := 9) (st' := [.ref 26]) rfl rfl rfl ?_
  refine ty_s_gr S rfl rfl rfl (List.mem_of_getElem? (i := 34) rfl) ?_
  refine mi_wp_p (pc' := 13) (st' := [.int (Int32.ofInt a), .ref 29]) rfl rfl rfl ?_
  refine ty_s_ald (x := mi_sA σ 29 a) S rfl rfl (List.mem_of_getElem? (i := 18) rfl) (by decide) (by omega) (by omega) rfl ?_
  refine mi_wp_p (pc' := 18) rfl rfl rfl ?_
  exact ty_s_ret S fr rfl rfl rfl (mi_ret_i rfl) ⟨_, rfl, ⟨rfl, rfl⟩⟩
theorem st26_typeOf {X : mi_X} {σ : mi_Sg} {d : Nat} {a : Int} (h0 : 0 ≤ a) (h1 : a < mi_sF σ 26 7) (h2 : mi_sF σ 26 7 ≤ 1024) : ty_Ci X (d + 1) mi_M103 [(0, .ref 26), (1, .int (Int32.ofInt a))] σ (fun x σ' => x = mi_sA σ 33 a ∧ σ' = σ) := by
  intro h S
  have fr := mi_Fm_rf h
  refine mi_wp_p (pc' := 1) (st' := [.ref 26]) rfl rfl rfl ?_
  refine mi_wp_p (pc' := 2) (st' := [.int (Int32.ofInt a), .ref 26]) rfl rfl rfl ?_
  refine ty_s_ci rfl rfl rfl rfl rfl rfl (mi_cal_v2 (np := 1) (args := [.ref 26, .int (Int32.ofInt a)]) (rest := []) rfl rfl rfl rfl rfl (Nat.le_of_ble_eq_true rfl) rfl rfl (Nat.le_of_ble_eq_true rfl) (ty_rcS S (List.mem_of_getElem? (i := 16) rfl))) (Nat.le_of_ble_eq_true rfl) S (st26_has h0 h1 h2) ?_
  intro x hh σu S f P
  obtain ⟨e1, e2⟩ := P
  rw [e2] at S
  rw [e1]
  clear e1 e2
  replace fr := mi_Fm_tr fr f
  refine mi_s_if1 (t := 17) rfl rfl rfl (by unfold mi_R; omega) (fun hc_ => absurd (show (1 : Int) = 0 from hc_) (by omega)) (fun _ => ?_)
  refine mi_wp_p (pc' := 9) (st' := [.ref 26]) rfl rfl rfl ?_
  refine ty_s_gr S rfl rfl rfl (List.mem_of_getElem? (i := 38) rfl) ?_
  refine mi_wp_p (pc' := 13) (st' := [.int (Int32.ofInt a), .ref 33]) rfl rfl rfl ?_
  refine ty_s_ald (x := mi_sA σ 33 a) S rfl rfl (List.mem_of_getElem? (i := 22) rfl) (by decide) (by omega) (by omega) rfl ?_
  refine mi_wp_p (pc' := 18) rfl rfl rfl ?_
  exact ty_s_ret S fr rfl rfl rfl (mi_ret_i rfl) ⟨_, rfl, ⟨rfl, rfl⟩⟩
theorem st26_setType {X : mi_X} {σ : mi_Sg} {d : Nat} {a b : Int} (h0 : 0 ≤ a) (h1 : a < mi_sF σ 26 7) (h2 : mi_sF σ 26 7 ≤ 1024) : ty_Cv X (d + 1) mi_M101 [(0, .ref 26), (1, .int (Int32.ofInt a)), (2, .int (Int32.ofInt b))] σ (fun σ' => σ' = mi_uA σ 33 a b) := by
  intro h S
  have fr := mi_Fm_rf h
  refine mi_wp_p (pc' := 1) (st' := [.ref 26]) rfl rfl rfl ?_
  refine mi_wp_p (pc' := 2) (st' := [.int (Int32.ofInt a), .ref 26]) rfl rfl rfl ?_
  refine ty_s_ci rfl rfl rfl rfl rfl rfl (mi_cal_v2 (np := 1) (args := [.ref 26, .int (Int32.ofInt a)]) (rest := []) rfl rfl rfl rfl rfl (Nat.le_of_ble_eq_true rfl) rfl rfl (Nat.le_of_ble_eq_true rfl) (ty_rcS S (List.mem_of_getElem? (i := 16) rfl))) (Nat.le_of_ble_eq_true rfl) S (st26_has h0 h1 h2) ?_
  intro x hh σu S f P
  obtain ⟨e1, e2⟩ := P
  rw [e2] at S
  rw [e1]
  clear e1 e2
  replace fr := mi_Fm_tr fr f
  refine mi_s_if1 (t := 15) rfl rfl rfl (by unfold mi_R; omega) (fun hc_ => absurd (show (1 : Int) = 0 from hc_) (by omega)) (fun _ => ?_)
  refine mi_wp_p (pc' := 9) (st' := [.ref 26]) rfl rfl rfl ?_
  refine ty_s_gr S rfl rfl rfl (List.mem_of_getElem? (i := 38) rfl) ?_
  refine mi_wp_p (pc' := 13) (st' := [.int (Int32.ofInt a), .ref 33]) rfl rfl rfl ?_
  refine mi_wp_p (pc' := 14) (st' := [.int (Int32.ofInt b), .int (Int32.ofInt a), .ref 33]) rfl rfl rfl ?_
  refine ty_s_ast S rfl rfl (List.mem_of_getElem? (i := 22) rfl) (by decide) (by decide) (by omega) (by omega) ?_
  intro h4 S f
  replace fr := mi_Fm_tr fr f
  exact ty_s_ret S fr rfl rfl rfl rfl ⟨rfl, rfl⟩
theorem st26_setSpan {X : mi_X} {σ : mi_Sg} {d : Nat} {a b c : Int} (h0 : 0 ≤ a) (h1 : a < mi_sF σ 26 7) (h2 : mi_sF σ 26 7 ≤ 1024) : ty_Cv X (d + 1) mi_M100 [(0, .ref 26), (1, .int (Int32.ofInt a)), (2, .int (Int32.ofInt b)), (3, .int (Int32.ofInt c))] σ (fun σ' => σ' = mi_uA (mi_uA σ 31 a b) 32 a c) := by
  intro h S
  have fr := mi_Fm_rf h
  refine mi_wp_p (pc' := 1) (st' := [.ref 26]) rfl rfl rfl ?_
  refine mi_wp_p (pc' := 2) (st' := [.int (Int32.ofInt a), .ref 26]) rfl rfl rfl ?_
  refine ty_s_ci rfl rfl rfl rfl rfl rfl (mi_cal_v2 (np := 1) (args := [.ref 26, .int (Int32.ofInt a)]) (rest := []) rfl rfl rfl rfl rfl (Nat.le_of_ble_eq_true rfl) rfl rfl (Nat.le_of_ble_eq_true rfl) (ty_rcS S (List.mem_of_getElem? (i := 16) rfl))) (Nat.le_of_ble_eq_true rfl) S (st26_has h0 h1 h2) ?_
  intro x hh σu S f P
  obtain ⟨e1, e2⟩ := P
  rw [e2] at S
  rw [e1]
  clear e1 e2
  replace fr := mi_Fm_tr fr f
  refine mi_s_if1 (t := 22) rfl rfl rfl (by unfold mi_R; omega) (fun hc_ => absurd (show (1 : Int) = 0 from hc_) (by omega)) (fun _ => ?_)
  refine mi_wp_p (pc' := 9) (st' := [.ref 26]) rfl rfl rfl ?_
  refine ty_s_gr S rfl rfl rfl (List.mem_of_getElem? (i := 36) rfl) ?_
  refine mi_wp_p (pc' := 13) (st' := [.int (Int32.ofInt a), .ref 31]) rfl rfl rfl ?_
  refine mi_wp_p (pc' := 14) (st' := [.int (Int32.ofInt b), .int (Int32.ofInt a), .ref 31]) rfl rfl rfl ?_
  refine ty_s_ast S rfl rfl (List.mem_of_getElem? (i := 20) rfl) (by decide) (by decide) (by omega) (by omega) ?_
  intro h5 S f
  replace fr := mi_Fm_tr fr f
  refine mi_wp_p (pc' := 16) (st' := [.ref 26]) rfl rfl rfl ?_
  refine ty_s_gr S rfl rfl rfl (List.mem_of_getElem? (i := 37) rfl) ?_
  refine mi_wp_p (pc' := 20) (st' := [.int (Int32.ofInt a), .ref 32]) rfl rfl rfl ?_
  refine mi_wp_p (pc' := 21) (st' := [.int (Int32.ofInt c), .int (Int32.ofInt a), .ref 32]) rfl rfl rfl ?_
  refine ty_s_ast S rfl rfl (List.mem_of_getElem? (i := 21) rfl) (by decide) (by decide) (by omega) (by omega) ?_
  intro h6 S f
  replace fr := mi_Fm_tr fr f
  exact ty_s_ret S fr rfl rfl rfl rfl ⟨rfl, rfl⟩
/-- the steps with one more -/
def st26_ad (σ : mi_Sg) (a b c e : Int) : mi_Sg := mi_uF (mi_uA (mi_uA (mi_uA (mi_uA (mi_uA (mi_uA (mi_uA σ 27 (mi_sF σ 26 7) a) 28 (mi_sF σ 26 7) b) 29 (mi_sF σ 26 7) c) 30 (mi_sF σ 26 7) e) 33 (mi_sF σ 26 7) 0) 31 (mi_sF σ 26 7) 0) 32 (mi_sF σ 26 7) (-1)) 26 7 (mi_sF σ 26 7 + 1)
theorem st26_add {X : mi_X} {d : Nat} {σ : mi_Sg} {a b c e : Int} (h0 : 0 ≤ mi_sF σ 26 7) (h1 : mi_sF σ 26 7 < 1024) : ty_Ci X d mi_M95 [(0, .ref 26), (1, .int (Int32.ofInt a)), (2, .int (Int32.ofInt b)), (3, .int (Int32.ofInt c)), (4, .int (Int32.ofInt e))] σ (fun x σ' => x = mi_sF σ 26 7 ∧ σ' = st26_ad σ a b c e) := by
  intro h S
  have fr := mi_Fm_rf h
  refine mi_wp_p (pc' := 1) (st' := [.ref 26]) rfl rfl rfl ?_
  refine ty_s_gf (x := mi_sF σ 26 7) S rfl rfl rfl (List.mem_of_getElem? (i := 16) rfl) rfl ?_
  refine mi_s_k (pc' := 7) (e := 1024) rfl rfl rfl (by decide +kernel) ?_
  refine mi_s_if2 (t := 12) rfl rfl rfl (by unfold mi_R; omega) (by unfold mi_R; omega) (fun _ => ?_) (fun hc_ => absurd (show (mi_sF σ 26 7) < 1024 by omega) hc_)
  refine mi_wp_p (pc' := 13) (st' := [.ref 26]) rfl rfl rfl ?_
  refine ty_s_gr S rfl rfl rfl (List.mem_of_getElem? (i := 32) rfl) ?_
  refine mi_wp_p (pc' := 17) (st' := [.ref 26, .ref 27]) rfl rfl rfl ?_
  refine ty_s_gf (x := mi_sF σ 26 7) S rfl rfl rfl (List.mem_of_getElem? (i := 16) rfl) rfl ?_
  refine mi_wp_p (pc' := 21) (st' := [.int (Int32.ofInt a), .int (Int32.ofInt (mi_sF σ 26 7)), .ref 27]) rfl rfl rfl ?_
  refine ty_s_ast S rfl rfl (List.mem_of_getElem? (i := 16) rfl) (by decide) (by decide) (by omega) (by omega) ?_
  intro h7 S f
  replace fr := mi_Fm_tr fr f
  refine mi_wp_p (pc' := 23) (st' := [.ref 26]) rfl rfl rfl ?_
  refine ty_s_gr S rfl rfl rfl (List.mem_of_getElem? (i := 33) rfl) ?_
  refine mi_wp_p (pc' := 27) (st' := [.ref 26, .ref 28]) rfl rfl rfl ?_
  refine ty_s_gf (x := mi_sF σ 26 7) S rfl rfl rfl (List.mem_of_getElem? (i := 16) rfl) rfl ?_
  refine mi_wp_p (pc' := 31) (st' := [.int (Int32.ofInt b), .int (Int32.ofInt (mi_sF σ 26 7)), .ref 28]) rfl rfl rfl ?_
  refine ty_s_ast S rfl rfl (List.mem_of_getElem? (i := 17) rfl) (by decide) (by decide) (by omega) (by omega) ?_
  intro h8 S f
  replace fr := mi_Fm_tr fr f
  refine mi_wp_p (pc' := 33) (st' := [.ref 26]) rfl rfl rfl ?_
  refine ty_s_gr S rfl rfl rfl (List.mem_of_getElem? (i := 34) rfl) ?_
  refine mi_wp_p (pc' := 37) (st' := [.ref 26, .ref 29]) rfl rfl rfl ?_
  refine ty_s_gf (x := mi_sF σ 26 7) S rfl rfl rfl (List.mem_of_getElem? (i := 16) rfl) rfl ?_
  refine mi_wp_p (pc' := 41) (st' := [.int (Int32.ofInt c), .int (Int32.ofInt (mi_sF σ 26 7)), .ref 29]) rfl rfl rfl ?_
  refine ty_s_ast S rfl rfl (List.mem_of_getElem? (i := 18) rfl) (by decide) (by decide) (by omega) (by omega) ?_
  intro h9 S f
  replace fr := mi_Fm_tr fr f
  refine mi_wp_p (pc' := 43) (st' := [.ref 26]) rfl rfl rfl ?_
  refine ty_s_gr S rfl rfl rfl (List.mem_of_getElem? (i := 35) rfl) ?_
  refine mi_wp_p (pc' := 47) (st' := [.ref 26, .ref 30]) rfl rfl rfl ?_
  refine ty_s_gf (x := mi_sF σ 26 7) S rfl rfl rfl (List.mem_of_getElem? (i := 16) rfl) rfl ?_
  refine mi_wp_p (pc' := 52) (st' := [.int (Int32.ofInt e), .int (Int32.ofInt (mi_sF σ 26 7)), .ref 30]) rfl rfl rfl ?_
  refine ty_s_ast S rfl rfl (List.mem_of_getElem? (i := 19) rfl) (by decide) (by decide) (by omega) (by omega) ?_
  intro h10 S f
  replace fr := mi_Fm_tr fr f
  refine mi_wp_p (pc' := 54) (st' := [.ref 26]) rfl rfl rfl ?_
  refine ty_s_gr S rfl rfl rfl (List.mem_of_getElem? (i := 38) rfl) ?_
  refine mi_wp_p (pc' := 58) (st' := [.ref 26, .ref 33]) rfl rfl rfl ?_
  refine ty_s_gf (x := mi_sF σ 26 7) S rfl rfl rfl (List.mem_of_getElem? (i := 16) rfl) rfl ?_
  refine mi_wp_p (pc' := 62) (st' := [.int (Int32.ofInt 0), .int (Int32.ofInt (mi_sF σ 26 7)), .ref 33]) rfl rfl rfl ?_
  refine ty_s_ast S rfl rfl (List.mem_of_getElem? (i := 22) rfl) (by decide) (by decide) (by omega) (by omega) ?_
  intro h11 S f
  replace fr := mi_Fm_tr fr f
  refine mi_wp_p (pc' := 64) (st' := [.ref 26]) rfl rfl rfl ?_
  refine ty_s_gr S rfl rfl rfl (List.mem_of_getElem? (i := 36) rfl) ?_
  refine mi_wp_p (pc' := 68) (st' := [.ref 26, .ref 31]) rfl rfl rfl ?_
  refine ty_s_gf (x := mi_sF σ 26 7) S rfl rfl rfl (List.mem_of_getElem? (i := 16) rfl) rfl ?_
  refine mi_wp_p (pc' := 72) (st' := [.int (Int32.ofInt 0), .int (Int32.ofInt (mi_sF σ 26 7)), .ref 31]) rfl rfl rfl ?_
  refine ty_s_ast S rfl rfl (List.mem_of_getElem? (i := 20) rfl) (by decide) (by decide) (by omega) (by omega) ?_
  intro h12 S f
  replace fr := mi_Fm_tr fr f
  refine mi_wp_p (pc' := 74) (st' := [.ref 26]) rfl rfl rfl ?_
  refine ty_s_gr S rfl rfl rfl (List.mem_of_getElem? (i := 37) rfl) ?_
  refine mi_wp_p (pc' := 78) (st' := [.ref 26, .ref 32]) rfl rfl rfl ?_
  refine ty_s_gf (x := mi_sF σ 26 7) S rfl rfl rfl (List.mem_of_getElem? (i := 16) rfl) rfl ?_
  refine mi_wp_p (pc' := 82) (st' := [.int (Int32.ofInt (-1)), .int (Int32.ofInt (mi_sF σ 26 7)), .ref 32]) rfl rfl rfl ?_
  refine ty_s_ast S rfl rfl (List.mem_of_getElem? (i := 21) rfl) (by decide) (by decide) (by omega) (by omega) ?_
  intro h13 S f
  replace fr := mi_Fm_tr fr f
  refine mi_wp_p (pc' := 84) (st' := [.ref 26]) rfl rfl rfl ?_
  refine mi_wp_p (pc' := 85) (st' := [.ref 26, .ref 26]) rfl rfl rfl ?_
  refine ty_s_gf (x := mi_sF σ 26 7) S rfl rfl rfl (List.mem_of_getElem? (i := 16) rfl) rfl ?_
  refine mi_wp_p (pc' := 89) (st' := [.int (Int32.ofInt 1), .int (Int32.ofInt (mi_sF σ 26 7)), .ref 26]) rfl rfl rfl ?_
  refine mi_s_add rfl rfl ?_
  refine ty_s_pf S rfl rfl rfl (List.mem_of_getElem? (i := 16) rfl) (by decide) mi_fit_int (Or.inl rfl) ?_
  intro h14 S f
  replace fr := mi_Fm_tr fr f
  refine mi_wp_p (pc' := 94) (st' := [.ref 26]) rfl rfl rfl ?_
  refine ty_s_gf (x := (mi_sF σ 26 7) + 1) S rfl rfl rfl (List.mem_of_getElem? (i := 16) rfl) rfl ?_
  refine mi_wp_p (pc' := 98) (st' := [.int (Int32.ofInt 1), .int (Int32.ofInt ((mi_sF σ 26 7) + 1))]) rfl rfl rfl ?_
  refine mi_s_sub rfl rfl ?_
  exact ty_s_ret S fr rfl rfl rfl (mi_ret_i rfl) ⟨_, rfl, ⟨by omega, rfl⟩⟩
theorem st34_size {X : mi_X} {d : Nat} {σ : mi_Sg}  : ty_Ci X d mi_M102 [(0, .ref 34)] σ (fun x σ' => x = mi_sF σ 34 7 ∧ σ' = σ) := by
  intro h S
  have fr := mi_Fm_rf h
  refine mi_wp_p (pc' := 1) (st' := [.ref 34]) rfl rfl rfl ?_
  refine ty_s_gf (x := mi_sF σ 34 7) S rfl rfl rfl (List.mem_of_getElem? (i := 17) rfl) rfl ?_
  exact ty_s_ret S fr rfl rfl rfl (mi_ret_i rfl) ⟨_, rfl, ⟨rfl, rfl⟩⟩
theorem st34_clear {X : mi_X} {d : Nat} {σ : mi_Sg}  : ty_Cv X d mi_M97 [(0, .ref 34)] σ (fun σ' => σ' = mi_uF σ 34 7 0) := by
  intro h S
  have fr := mi_Fm_rf h
  refine mi_wp_p (pc' := 1) (st' := [.ref 34]) rfl rfl rfl ?_
  refine mi_wp_p (pc' := 2) (st' := [.int (Int32.ofInt 0), .ref 34]) rfl rfl rfl ?_
  refine ty_s_pf S rfl rfl rfl (List.mem_of_getElem? (i := 17) rfl) (by decide) mi_fit_int (Or.inl rfl) ?_
  intro h15 S f
  replace fr := mi_Fm_tr fr f
  exact ty_s_ret S fr rfl rfl rfl rfl ⟨rfl, rfl⟩
theorem st34_has {X : mi_X} {d : Nat} {σ : mi_Sg} {a : Int} (h0 : 0 ≤ a) (h1 : a < mi_sF σ 34 7) (h2 : mi_sF σ 34 7 ≤ 1024) : ty_Ci X d mi_M98 [(0, .ref 34), (1, .int (Int32.ofInt a))] σ (fun x σ' => x = 1 ∧ σ' = σ) := by
  intro h S
  have fr := mi_Fm_rf h
  refine mi_wp_p (pc' := 1) (st' := [.int (Int32.ofInt a)]) rfl rfl rfl ?_
  refine mi_s_if1 (t := 16) rfl rfl rfl (by unfold mi_R; omega) (fun hc_ => absurd (show a < 0 from hc_) (by omega)) (fun _ => ?_)
  refine mi_wp_p (pc' := 5) (st' := [.int (Int32.ofInt a)]) rfl rfl rfl ?_
  refine mi_wp_p (pc' := 6) (st' := [.ref 34, .int (Int32.ofInt a)]) rfl rfl rfl ?_
  refine ty_s_gf (x := mi_sF σ 34 7) S rfl rfl rfl (List.mem_of_getElem? (i := 17) rfl) rfl ?_
  refine mi_s_if2 (t := 16) rfl rfl rfl (by unfold mi_R; omega) (by unfold mi_R; omega) (fun hc_ => absurd (show (mi_sF σ 34 7) ≤ a from hc_) (by omega)) (fun _ => ?_)
  refine mi_wp_p (pc' := 13) (st' := [.int (Int32.ofInt 1)]) rfl rfl rfl ?_
  refine mi_wp_p (pc' := 17) rfl rfl rfl ?_
  exact ty_s_ret S fr rfl rfl rfl rfl ⟨_, rfl, ⟨rfl, rfl⟩⟩
theorem st34_kindOf {X : mi_X} {σ : mi_Sg} {d : Nat} {a : Int} (h0 : 0 ≤ a) (h1 : a < mi_sF σ 34 7) (h2 : mi_sF σ 34 7 ≤ 1024) : ty_Ci X (d + 1) mi_M99 [(0, .ref 34), (1, .int (Int32.ofInt a))] σ (fun x σ' => x = mi_sA σ 35 a ∧ σ' = σ) := by
  intro h S
  have fr := mi_Fm_rf h
  refine mi_wp_p (pc' := 1) (st' := [.ref 34]) rfl rfl rfl ?_
  refine mi_wp_p (pc' := 2) (st' := [.int (Int32.ofInt a), .ref 34]) rfl rfl rfl ?_
  refine ty_s_ci rfl rfl rfl rfl rfl rfl (mi_cal_v2 (np := 1) (args := [.ref 34, .int (Int32.ofInt a)]) (rest := []) rfl rfl rfl rfl rfl (Nat.le_of_ble_eq_true rfl) rfl rfl (Nat.le_of_ble_eq_true rfl) (ty_rcS S (List.mem_of_getElem? (i := 17) rfl))) (Nat.le_of_ble_eq_true rfl) S (st34_has h0 h1 h2) ?_
  intro x hh σu S f P
  obtain ⟨e1, e2⟩ := P
  rw [e2] at S
  rw [e1]
  clear e1 e2
  replace fr := mi_Fm_tr fr f
  refine mi_s_if1 (t := 17) rfl rfl rfl (by unfold mi_R; omega) (fun hc_ => absurd (show (1 : Int) = 0 from hc_) (by omega)) (fun _ => ?_)
  refine mi_wp_p (pc' := 9) (st' := [.ref 34]) rfl rfl rfl ?_
  refine ty_s_gr S rfl rfl rfl (List.mem_of_getElem? (i := 39) rfl) ?_
  refine mi_wp_p (pc' := 13) (st' := [.int (Int32.ofInt a), .ref 35]) rfl rfl rfl ?_
  refine ty_s_ald (x := mi_sA σ 35 a) S rfl rfl (List.mem_of_getElem? (i := 23) rfl) (by decide) (by omega) (by omega) rfl ?_
  refine mi_wp_p (pc' := 18) rfl rfl rfl ?_
  exact ty_s_ret S fr rfl rfl rfl (mi_ret_i rfl) ⟨_, rfl, ⟨rfl, rfl⟩⟩
theorem st34_aOf {X : mi_X} {σ : mi_Sg} {d : Nat} {a : Int} (h0 : 0 ≤ a) (h1 : a < mi_sF σ 34 7) (h2 : mi_sF σ 34 7 ≤ 1024) : ty_Ci X (d + 1) mi_M94 [(0, .ref 34), (1, .int (Int32.ofInt a))] σ (fun x σ' => x = mi_sA σ 36 a ∧ σ' = σ) := by
  intro h S
  have fr := mi_Fm_rf h
  refine mi_wp_p (pc' := 1) (st' := [.ref 34]) rfl rfl rfl ?_
  refine mi_wp_p (pc' := 2) (st' := [.int (Int32.ofInt a), .ref 34]) rfl rfl rfl ?_
  refine ty_s_ci rfl rfl rfl rfl rfl rfl (mi_cal_v2 (np := 1) (args := [.ref 34, .int (Int32.ofInt a)]) (rest := []) rfl rfl rfl rfl rfl (Nat.le_of_ble_eq_true rfl) rfl rfl (Nat.le_of_ble_eq_true rfl) (ty_rcS S (List.mem_of_getElem? (i := 17) rfl))) (Nat.le_of_ble_eq_true rfl) S (st34_has h0 h1 h2) ?_
  intro x hh σu S f P
  obtain ⟨e1, e2⟩ := P
  rw [e2] at S
  rw [e1]
  clear e1 e2
  replace fr := mi_Fm_tr fr f
  refine mi_s_if1 (t := 17) rfl rfl rfl (by unfold mi_R; omega) (fun hc_ => absurd (show (1 : Int) = 0 from hc_) (by omega)) (fun _ => ?_)
  refine mi_wp_p (pc' := 9) (st' := [.ref 34]) rfl rfl rfl ?_
  refine ty_s_gr S rfl rfl rfl (List.mem_of_getElem? (i := 40) rfl) ?_
  refine mi_wp_p (pc' := 13) (st' := [.int (Int32.ofInt a), .ref 36]) rfl rfl rfl ?_
  refine ty_s_ald (x := mi_sA σ 36 a) S rfl rfl (List.mem_of_getElem? (i := 24) rfl) (by decide) (by omega) (by omega) rfl ?_
  refine mi_wp_p (pc' := 18) rfl rfl rfl ?_
  exact ty_s_ret S fr rfl rfl rfl (mi_ret_i rfl) ⟨_, rfl, ⟨rfl, rfl⟩⟩
theorem st34_bOf {X : mi_X} {σ : mi_Sg} {d : Nat} {a : Int} (h0 : 0 ≤ a) (h1 : a < mi_sF σ 34 7) (h2 : mi_sF σ 34 7 ≤ 1024) : ty_Ci X (d + 1) mi_M96 [(0, .ref 34), (1, .int (Int32.ofInt a))] σ (fun x σ' => x = mi_sA σ 37 a ∧ σ' = σ) := by
  intro h S
  have fr := mi_Fm_rf h
  refine mi_wp_p (pc' := 1) (st' := [.ref 34]) rfl rfl rfl ?_
  refine mi_wp_p (pc' := 2) (st' := [.int (Int32.ofInt a), .ref 34]) rfl rfl rfl ?_
  refine ty_s_ci rfl rfl rfl rfl rfl rfl (mi_cal_v2 (np := 1) (args := [.ref 34, .int (Int32.ofInt a)]) (rest := []) rfl rfl rfl rfl rfl (Nat.le_of_ble_eq_true rfl) rfl rfl (Nat.le_of_ble_eq_true rfl) (ty_rcS S (List.mem_of_getElem? (i := 17) rfl))) (Nat.le_of_ble_eq_true rfl) S (st34_has h0 h1 h2) ?_
  intro x hh σu S f P
  obtain ⟨e1, e2⟩ := P
  rw [e2] at S
  rw [e1]
  clear e1 e2
  replace fr := mi_Fm_tr fr f
  refine mi_s_if1 (t := 17) rfl rfl rfl (by unfold mi_R; omega) (fun hc_ => absurd (show (1 : Int) = 0 from hc_) (by omega)) (fun _ => ?_)
  refine mi_wp_p (pc' := 9) (st' := [.ref 34]) rfl rfl rfl ?_
  refine ty_s_gr S rfl rfl rfl (List.mem_of_getElem? (i := 41) rfl) ?_
  refine mi_wp_p (pc' := 13) (st' := [.int (Int32.ofInt a), .ref 37]) rfl rfl rfl ?_
  refine ty_s_ald (x := mi_sA σ 37 a) S rfl rfl (List.mem_of_getElem? (i := 25) rfl) (by decide) (by omega) (by omega) rfl ?_
  refine mi_wp_p (pc' := 18) rfl rfl rfl ?_
  exact ty_s_ret S fr rfl rfl rfl (mi_ret_i rfl) ⟨_, rfl, ⟨rfl, rfl⟩⟩
theorem st34_typeOf {X : mi_X} {σ : mi_Sg} {d : Nat} {a : Int} (h0 : 0 ≤ a) (h1 : a < mi_sF σ 34 7) (h2 : mi_sF σ 34 7 ≤ 1024) : ty_Ci X (d + 1) mi_M103 [(0, .ref 34), (1, .int (Int32.ofInt a))] σ (fun x σ' => x = mi_sA σ 41 a ∧ σ' = σ) := by
  intro h S
  have fr := mi_Fm_rf h
  refine mi_wp_p (pc' := 1) (st' := [.ref 34]) rfl rfl rfl ?_
  refine mi_wp_p (pc' := 2) (st' := [.int (Int32.ofInt a), .ref 34]) rfl rfl rfl ?_
  refine ty_s_ci rfl rfl rfl rfl rfl rfl (mi_cal_v2 (np := 1) (args := [.ref 34, .int (Int32.ofInt a)]) (rest := []) rfl rfl rfl rfl rfl (Nat.le_of_ble_eq_true rfl) rfl rfl (Nat.le_of_ble_eq_true rfl) (ty_rcS S (List.mem_of_getElem? (i := 17) rfl))) (Nat.le_of_ble_eq_true rfl) S (st34_has h0 h1 h2) ?_
  intro x hh σu S f P
  obtain ⟨e1, e2⟩ := P
  rw [e2] at S
  rw [e1]
  clear e1 e2
  replace fr := mi_Fm_tr fr f
  refine mi_s_if1 (t := 17) rfl rfl rfl (by unfold mi_R; omega) (fun hc_ => absurd (show (1 : Int) = 0 from hc_) (by omega)) (fun _ => ?_)
  refine mi_wp_p (pc' := 9) (st' := [.ref 34]) rfl rfl rfl ?_
  refine ty_s_gr S rfl rfl rfl (List.mem_of_getElem? (i := 45) rfl) ?_
  refine mi_wp_p (pc' := 13) (st' := [.int (Int32.ofInt a), .ref 41]) rfl rfl rfl ?_
  refine ty_s_ald (x := mi_sA σ 41 a) S rfl rfl (List.mem_of_getElem? (i := 29) rfl) (by decide) (by omega) (by omega) rfl ?_
  refine mi_wp_p (pc' := 18) rfl rfl rfl ?_
  exact ty_s_ret S fr rfl rfl rfl (mi_ret_i rfl) ⟨_, rfl, ⟨rfl, rfl⟩⟩
theorem st34_setType {X : mi_X} {σ : mi_Sg} {d : Nat} {a b : Int} (h0 : 0 ≤ a) (h1 : a < mi_sF σ 34 7) (h2 : mi_sF σ 34 7 ≤ 1024) : ty_Cv X (d + 1) mi_M101 [(0, .ref 34), (1, .int (Int32.ofInt a)), (2, .int (Int32.ofInt b))] σ (fun σ' => σ' = mi_uA σ 41 a b) := by
  intro h S
  have fr := mi_Fm_rf h
  refine mi_wp_p (pc' := 1) (st' := [.ref 34]) rfl rfl rfl ?_
  refine mi_wp_p (pc' := 2) (st' := [.int (Int32.ofInt a), .ref 34]) rfl rfl rfl ?_
  refine ty_s_ci rfl rfl rfl rfl rfl rfl (mi_cal_v2 (np := 1) (args := [.ref 34, .int (Int32.ofInt a)]) (rest := []) rfl rfl rfl rfl rfl (Nat.le_of_ble_eq_true rfl) rfl rfl (Nat.le_of_ble_eq_true rfl) (ty_rcS S (List.mem_of_getElem? (i := 17) rfl))) (Nat.le_of_ble_eq_true rfl) S (st34_has h0 h1 h2) ?_
  intro x hh σu S f P
  obtain ⟨e1, e2⟩ := P
  rw [e2] at S
  rw [e1]
  clear e1 e2
  replace fr := mi_Fm_tr fr f
  refine mi_s_if1 (t := 15) rfl rfl rfl (by unfold mi_R; omega) (fun hc_ => absurd (show (1 : Int) = 0 from hc_) (by omega)) (fun _ => ?_)
  refine mi_wp_p (pc' := 9) (st' := [.ref 34]) rfl rfl rfl ?_
  refine ty_s_gr S rfl rfl rfl (List.mem_of_getElem? (i := 45) rfl) ?_
  refine mi_wp_p (pc' := 13) (st' := [.int (Int32.ofInt a), .ref 41]) rfl rfl rfl ?_
  refine mi_wp_p (pc' := 14) (st' := [.int (Int32.ofInt b), .int (Int32.ofInt a), .ref 41]) rfl rfl rfl ?_
  refine ty_s_ast S rfl rfl (List.mem_of_getElem? (i := 29) rfl) (by decide) (by decide) (by omega) (by omega) ?_
  intro h16 S f
  replace fr := mi_Fm_tr fr f
  exact ty_s_ret S fr rfl rfl rfl rfl ⟨rfl, rfl⟩
theorem st34_setSpan {X : mi_X} {σ : mi_Sg} {d : Nat} {a b c : Int} (h0 : 0 ≤ a) (h1 : a < mi_sF σ 34 7) (h2 : mi_sF σ 34 7 ≤ 1024) : ty_Cv X (d + 1) mi_M100 [(0, .ref 34), (1, .int (Int32.ofInt a)), (2, .int (Int32.ofInt b)), (3, .int (Int32.ofInt c))] σ (fun σ' => σ' = mi_uA (mi_uA σ 39 a b) 40 a c) := by
  intro h S
  have fr := mi_Fm_rf h
  refine mi_wp_p (pc' := 1) (st' := [.ref 34]) rfl rfl rfl ?_
  refine mi_wp_p (pc' := 2) (st' := [.int (Int32.ofInt a), .ref 34]) rfl rfl rfl ?_
  refine ty_s_ci rfl rfl rfl rfl rfl rfl (mi_cal_v2 (np := 1) (args := [.ref 34, .int (Int32.ofInt a)]) (rest := []) rfl rfl rfl rfl rfl (Nat.le_of_ble_eq_true rfl) rfl rfl (Nat.le_of_ble_eq_true rfl) (ty_rcS S (List.mem_of_getElem? (i := 17) rfl))) (Nat.le_of_ble_eq_true rfl) S (st34_has h0 h1 h2) ?_
  intro x hh σu S f P
  obtain ⟨e1, e2⟩ := P
  rw [e2] at S
  rw [e1]
  clear e1 e2
  replace fr := mi_Fm_tr fr f
  refine mi_s_if1 (t := 22) rfl rfl rfl (by unfold mi_R; omega) (fun hc_ => absurd (show (1 : Int) = 0 from hc_) (by omega)) (fun _ => ?_)
  refine mi_wp_p (pc' := 9) (st' := [.ref 34]) rfl rfl rfl ?_
  refine ty_s_gr S rfl rfl rfl (List.mem_of_getElem? (i := 43) rfl) ?_
  refine mi_wp_p (pc' := 13) (st' := [.int (Int32.ofInt a), .ref 39]) rfl rfl rfl ?_
  refine mi_wp_p (pc' := 14) (st' := [.int (Int32.ofInt b), .int (Int32.ofInt a), .ref 39]) rfl rfl rfl ?_
  refine ty_s_ast S rfl rfl (List.mem_of_getElem? (i := 27) rfl) (by decide) (by decide) (by omega) (by omega) ?_
  intro h17 S f
  replace fr := mi_Fm_tr fr f
  refine mi_wp_p (pc' := 16) (st' := [.ref 34]) rfl rfl rfl ?_
  refine ty_s_gr S rfl rfl rfl (List.mem_of_getElem? (i := 44) rfl) ?_
  refine mi_wp_p (pc' := 20) (st' := [.int (Int32.ofInt a), .ref 40]) rfl rfl rfl ?_
  refine mi_wp_p (pc' := 21) (st' := [.int (Int32.ofInt c), .int (Int32.ofInt a), .ref 40]) rfl rfl rfl ?_
  refine ty_s_ast S rfl rfl (List.mem_of_getElem? (i := 28) rfl) (by decide) (by decide) (by omega) (by omega) ?_
  intro h18 S f
  replace fr := mi_Fm_tr fr f
  exact ty_s_ret S fr rfl rfl rfl rfl ⟨rfl, rfl⟩
/-- the steps with one more -/
def st34_ad (σ : mi_Sg) (a b c e : Int) : mi_Sg := mi_uF (mi_uA (mi_uA (mi_uA (mi_uA (mi_uA (mi_uA (mi_uA σ 35 (mi_sF σ 34 7) a) 36 (mi_sF σ 34 7) b) 37 (mi_sF σ 34 7) c) 38 (mi_sF σ 34 7) e) 41 (mi_sF σ 34 7) 0) 39 (mi_sF σ 34 7) 0) 40 (mi_sF σ 34 7) (-1)) 34 7 (mi_sF σ 34 7 + 1)
theorem st34_add {X : mi_X} {d : Nat} {σ : mi_Sg} {a b c e : Int} (h0 : 0 ≤ mi_sF σ 34 7) (h1 : mi_sF σ 34 7 < 1024) : ty_Ci X d mi_M95 [(0, .ref 34), (1, .int (Int32.ofInt a)), (2, .int (Int32.ofInt b)), (3, .int (Int32.ofInt c)), (4, .int (Int32.ofInt e))] σ (fun x σ' => x = mi_sF σ 34 7 ∧ σ' = st34_ad σ a b c e) := by
  intro h S
  have fr := mi_Fm_rf h
  refine mi_wp_p (pc' := 1) (st' := [.ref 34]) rfl rfl rfl ?_
  refine ty_s_gf (x := mi_sF σ 34 7) S rfl rfl rfl (List.mem_of_getElem? (i := 17) rfl) rfl ?_
  refine mi_s_k (pc' := 7) (e := 1024) rfl rfl rfl (by decide +kernel) ?_
  refine mi_s_if2 (t := 12) rfl rfl rfl (by unfold mi_R; omega) (by unfold mi_R; omega) (fun _ => ?_) (fun hc_ => absurd (show (mi_sF σ 34 7) < 1024 by omega) hc_)
  refine mi_wp_p (pc' := 13) (st' := [.ref 34]) rfl rfl rfl ?_
  refine ty_s_gr S rfl rfl rfl (List.mem_of_getElem? (i := 39) rfl) ?_
  refine mi_wp_p (pc' := 17) (st' := [.ref 34, .ref 35]) rfl rfl rfl ?_
  refine ty_s_gf (x := mi_sF σ 34 7) S rfl rfl rfl (List.mem_of_getElem? (i := 17) rfl) rfl ?_
  refine mi_wp_p (pc' := 21) (st' := [.int (Int32.ofInt a), .int (Int32.ofInt (mi_sF σ 34 7)), .ref 35]) rfl rfl rfl ?_
  refine ty_s_ast S rfl rfl (List.mem_of_getElem? (i := 23) rfl) (by decide) (by decide) (by omega) (by omega) ?_
  intro h19 S f
  replace fr := mi_Fm_tr fr f
  refine mi_wp_p (pc' := 23) (st' := [.ref 34]) rfl rfl rfl ?_
  refine ty_s_gr S rfl rfl rfl (List.mem_of_getElem? (i := 40) rfl) ?_
  refine mi_wp_p (pc' := 27) (st' := [.ref 34, .ref 36]) rfl rfl rfl ?_
  refine ty_s_gf (x := mi_sF σ 34 7) S rfl rfl rfl (List.mem_of_getElem? (i := 17) rfl) rfl ?_
  refine mi_wp_p (pc' := 31) (st' := [.int (Int32.ofInt b), .int (Int32.ofInt (mi_sF σ 34 7)), .ref 36]) rfl rfl rfl ?_
  refine ty_s_ast S rfl rfl (List.mem_of_getElem? (i := 24) rfl) (by decide) (by decide) (by omega) (by omega) ?_
  intro h20 S f
  replace fr := mi_Fm_tr fr f
  refine mi_wp_p (pc' := 33) (st' := [.ref 34]) rfl rfl rfl ?_
  refine ty_s_gr S rfl rfl rfl (List.mem_of_getElem? (i := 41) rfl) ?_
  refine mi_wp_p (pc' := 37) (st' := [.ref 34, .ref 37]) rfl rfl rfl ?_
  refine ty_s_gf (x := mi_sF σ 34 7) S rfl rfl rfl (List.mem_of_getElem? (i := 17) rfl) rfl ?_
  refine mi_wp_p (pc' := 41) (st' := [.int (Int32.ofInt c), .int (Int32.ofInt (mi_sF σ 34 7)), .ref 37]) rfl rfl rfl ?_
  refine ty_s_ast S rfl rfl (List.mem_of_getElem? (i := 25) rfl) (by decide) (by decide) (by omega) (by omega) ?_
  intro h21 S f
  replace fr := mi_Fm_tr fr f
  refine mi_wp_p (pc' := 43) (st' := [.ref 34]) rfl rfl rfl ?_
  refine ty_s_gr S rfl rfl rfl (List.mem_of_getElem? (i := 42) rfl) ?_
  refine mi_wp_p (pc' := 47) (st' := [.ref 34, .ref 38]) rfl rfl rfl ?_
  refine ty_s_gf (x := mi_sF σ 34 7) S rfl rfl rfl (List.mem_of_getElem? (i := 17) rfl) rfl ?_
  refine mi_wp_p (pc' := 52) (st' := [.int (Int32.ofInt e), .int (Int32.ofInt (mi_sF σ 34 7)), .ref 38]) rfl rfl rfl ?_
  refine ty_s_ast S rfl rfl (List.mem_of_getElem? (i := 26) rfl) (by decide) (by decide) (by omega) (by omega) ?_
  intro h22 S f
  replace fr := mi_Fm_tr fr f
  refine mi_wp_p (pc' := 54) (st' := [.ref 34]) rfl rfl rfl ?_
  refine ty_s_gr S rfl rfl rfl (List.mem_of_getElem? (i := 45) rfl) ?_
  refine mi_wp_p (pc' := 58) (st' := [.ref 34, .ref 41]) rfl rfl rfl ?_
  refine ty_s_gf (x := mi_sF σ 34 7) S rfl rfl rfl (List.mem_of_getElem? (i := 17) rfl) rfl ?_
  refine mi_wp_p (pc' := 62) (st' := [.int (Int32.ofInt 0), .int (Int32.ofInt (mi_sF σ 34 7)), .ref 41]) rfl rfl rfl ?_
  refine ty_s_ast S rfl rfl (List.mem_of_getElem? (i := 29) rfl) (by decide) (by decide) (by omega) (by omega) ?_
  intro h23 S f
  replace fr := mi_Fm_tr fr f
  refine mi_wp_p (pc' := 64) (st' := [.ref 34]) rfl rfl rfl ?_
  refine ty_s_gr S rfl rfl rfl (List.mem_of_getElem? (i := 43) rfl) ?_
  refine mi_wp_p (pc' := 68) (st' := [.ref 34, .ref 39]) rfl rfl rfl ?_
  refine ty_s_gf (x := mi_sF σ 34 7) S rfl rfl rfl (List.mem_of_getElem? (i := 17) rfl) rfl ?_
  refine mi_wp_p (pc' := 72) (st' := [.int (Int32.ofInt 0), .int (Int32.ofInt (mi_sF σ 34 7)), .ref 39]) rfl rfl rfl ?_
  refine ty_s_ast S rfl rfl (List.mem_of_getElem? (i := 27) rfl) (by decide) (by decide) (by omega) (by omega) ?_
  intro h24 S f
  replace fr := mi_Fm_tr fr f
  refine mi_wp_p (pc' := 74) (st' := [.ref 34]) rfl rfl rfl ?_
  refine ty_s_gr S rfl rfl rfl (List.mem_of_getElem? (i := 44) rfl) ?_
  refine mi_wp_p (pc' := 78) (st' := [.ref 34, .ref 40]) rfl rfl rfl ?_
  refine ty_s_gf (x := mi_sF σ 34 7) S rfl rfl rfl (List.mem_of_getElem? (i := 17) rfl) rfl ?_
  refine mi_wp_p (pc' := 82) (st' := [.int (Int32.ofInt (-1)), .int (Int32.ofInt (mi_sF σ 34 7)), .ref 40]) rfl rfl rfl ?_
  refine ty_s_ast S rfl rfl (List.mem_of_getElem? (i := 28) rfl) (by decide) (by decide) (by omega) (by omega) ?_
  intro h25 S f
  replace fr := mi_Fm_tr fr f
  refine mi_wp_p (pc' := 84) (st' := [.ref 34]) rfl rfl rfl ?_
  refine mi_wp_p (pc' := 85) (st' := [.ref 34, .ref 34]) rfl rfl rfl ?_
  refine ty_s_gf (x := mi_sF σ 34 7) S rfl rfl rfl (List.mem_of_getElem? (i := 17) rfl) rfl ?_
  refine mi_wp_p (pc' := 89) (st' := [.int (Int32.ofInt 1), .int (Int32.ofInt (mi_sF σ 34 7)), .ref 34]) rfl rfl rfl ?_
  refine mi_s_add rfl rfl ?_
  refine ty_s_pf S rfl rfl rfl (List.mem_of_getElem? (i := 17) rfl) (by decide) mi_fit_int (Or.inl rfl) ?_
  intro h26 S f
  replace fr := mi_Fm_tr fr f
  refine mi_wp_p (pc' := 94) (st' := [.ref 34]) rfl rfl rfl ?_
  refine ty_s_gf (x := (mi_sF σ 34 7) + 1) S rfl rfl rfl (List.mem_of_getElem? (i := 17) rfl) rfl ?_
  refine mi_wp_p (pc' := 98) (st' := [.int (Int32.ofInt 1), .int (Int32.ofInt ((mi_sF σ 34 7) + 1))]) rfl rfl rfl ?_
  refine mi_s_sub rfl rfl ?_
  exact ty_s_ret S fr rfl rfl rfl (mi_ret_i rfl) ⟨_, rfl, ⟨by omega, rfl⟩⟩
theorem to_kindOf {X : mi_X} {d : Nat} {σ : mi_Sg} {a : Int} (h0 : 0 ≤ a) (h1 : a < mi_sF σ 3 7) (h2 : mi_sF σ 3 7 ≤ 301) : ty_Ci X d mi_M111 [(0, .ref 3), (1, .int (Int32.ofInt a))] σ (fun x σ' => x = mi_sA σ 5 a ∧ σ' = σ) := by
  intro h S
  have fr := mi_Fm_rf h
  refine mi_wp_p (pc' := 1) (st' := [.int (Int32.ofInt a)]) rfl rfl rfl ?_
  refine mi_s_if1 (t := 21) rfl rfl rfl (by unfold mi_R; omega) (fun hc_ => absurd (show a < 0 from hc_) (by omega)) (fun _ => ?_)
  refine mi_wp_p (pc' := 5) (st' := [.int (Int32.ofInt a)]) rfl rfl rfl ?_
  refine mi_wp_p (pc' := 6) (st' := [.ref 3, .int (Int32.ofInt a)]) rfl rfl rfl ?_
  refine ty_s_gf (x := mi_sF σ 3 7) S rfl rfl rfl (List.mem_of_getElem? (i := 4) rfl) rfl ?_
  refine mi_s_if2 (t := 21) rfl rfl rfl (by unfold mi_R; omega) (by unfold mi_R; omega) (fun hc_ => absurd (show (mi_sF σ 3 7) ≤ a from hc_) (by omega)) (fun _ => ?_)
  refine mi_wp_p (pc' := 13) (st' := [.ref 3]) rfl rfl rfl ?_
  refine ty_s_gr S rfl rfl rfl (List.mem_of_getElem? (i := 12) rfl) ?_
  refine mi_wp_p (pc' := 17) (st' := [.int (Int32.ofInt a), .ref 5]) rfl rfl rfl ?_
  refine ty_s_ald (x := mi_sA σ 5 a) S rfl rfl (List.mem_of_getElem? (i := 1) rfl) (by decide) (by omega) (by omega) rfl ?_
  refine mi_wp_p (pc' := 23) rfl rfl rfl ?_
  exact ty_s_ret S fr rfl rfl rfl (mi_ret_i rfl) ⟨_, rfl, ⟨rfl, rfl⟩⟩
theorem to_placeOf {X : mi_X} {d : Nat} {σ : mi_Sg} {a : Int} (h0 : 0 ≤ a) (h1 : a < mi_sF σ 3 7) (h2 : mi_sF σ 3 7 ≤ 301) : ty_Ci X d mi_M115 [(0, .ref 3), (1, .int (Int32.ofInt a))] σ (fun x σ' => x = mi_sA σ 6 a ∧ σ' = σ) := by
  intro h S
  have fr := mi_Fm_rf h
  refine mi_wp_p (pc' := 1) (st' := [.int (Int32.ofInt a)]) rfl rfl rfl ?_
  refine mi_s_if1 (t := 21) rfl rfl rfl (by unfold mi_R; omega) (fun hc_ => absurd (show a < 0 from hc_) (by omega)) (fun _ => ?_)
  refine mi_wp_p (pc' := 5) (st' := [.int (Int32.ofInt a)]) rfl rfl rfl ?_
  refine mi_wp_p (pc' := 6) (st' := [.ref 3, .int (Int32.ofInt a)]) rfl rfl rfl ?_
  refine ty_s_gf (x := mi_sF σ 3 7) S rfl rfl rfl (List.mem_of_getElem? (i := 4) rfl) rfl ?_
  refine mi_s_if2 (t := 21) rfl rfl rfl (by unfold mi_R; omega) (by unfold mi_R; omega) (fun hc_ => absurd (show (mi_sF σ 3 7) ≤ a from hc_) (by omega)) (fun _ => ?_)
  refine mi_wp_p (pc' := 13) (st' := [.ref 3]) rfl rfl rfl ?_
  refine ty_s_gr S rfl rfl rfl (List.mem_of_getElem? (i := 13) rfl) ?_
  refine mi_wp_p (pc' := 17) (st' := [.int (Int32.ofInt a), .ref 6]) rfl rfl rfl ?_
  refine ty_s_ald (x := mi_sA σ 6 a) S rfl rfl (List.mem_of_getElem? (i := 2) rfl) (by decide) (by omega) (by omega) rfl ?_
  refine mi_wp_p (pc' := 25) rfl rfl rfl ?_
  exact ty_s_ret S fr rfl rfl rfl (mi_ret_i rfl) ⟨_, rfl, ⟨rfl, rfl⟩⟩
theorem to_lastOf {X : mi_X} {d : Nat} {σ : mi_Sg} {a : Int} (h0 : 0 ≤ a) (h1 : a < mi_sF σ 3 7) (h2 : mi_sF σ 3 7 ≤ 301) : ty_Ci X d mi_M113 [(0, .ref 3), (1, .int (Int32.ofInt a))] σ (fun x σ' => x = mi_sA σ 7 a ∧ σ' = σ) := by
  intro h S
  have fr := mi_Fm_rf h
  refine mi_wp_p (pc' := 1) (st' := [.int (Int32.ofInt a)]) rfl rfl rfl ?_
  refine mi_s_if1 (t := 21) rfl rfl rfl (by unfold mi_R; omega) (fun hc_ => absurd (show a < 0 from hc_) (by omega)) (fun _ => ?_)
  refine mi_wp_p (pc' := 5) (st' := [.int (Int32.ofInt a)]) rfl rfl rfl ?_
  refine mi_wp_p (pc' := 6) (st' := [.ref 3, .int (Int32.ofInt a)]) rfl rfl rfl ?_
  refine ty_s_gf (x := mi_sF σ 3 7) S rfl rfl rfl (List.mem_of_getElem? (i := 4) rfl) rfl ?_
  refine mi_s_if2 (t := 21) rfl rfl rfl (by unfold mi_R; omega) (by unfold mi_R; omega) (fun hc_ => absurd (show (mi_sF σ 3 7) ≤ a from hc_) (by omega)) (fun _ => ?_)
  refine mi_wp_p (pc' := 13) (st' := [.ref 3]) rfl rfl rfl ?_
  refine ty_s_gr S rfl rfl rfl (List.mem_of_getElem? (i := 14) rfl) ?_
  refine mi_wp_p (pc' := 17) (st' := [.int (Int32.ofInt a), .ref 7]) rfl rfl rfl ?_
  refine ty_s_ald (x := mi_sA σ 7 a) S rfl rfl (List.mem_of_getElem? (i := 3) rfl) (by decide) (by omega) (by omega) rfl ?_
  refine mi_wp_p (pc' := 25) rfl rfl rfl ?_
  exact ty_s_ret S fr rfl rfl rfl (mi_ret_i rfl) ⟨_, rfl, ⟨rfl, rfl⟩⟩
theorem to_keyOf {X : mi_X} {d : Nat} {σ : mi_Sg} {a : Int} (h0 : 0 ≤ a) (h1 : a < mi_sF σ 3 7) (h2 : mi_sF σ 3 7 ≤ 301) : ty_Cj X d mi_M110 [(0, .ref 3), (1, .int (Int32.ofInt a))] σ (fun x σ' => x = mi_sE σ 8 a ∧ σ' = σ) := by
  intro h S
  have fr := mi_Fm_rf h
  refine mi_wp_p (pc' := 1) (st' := [.int (Int32.ofInt a)]) rfl rfl rfl ?_
  refine mi_s_if1 (t := 21) rfl rfl rfl (by unfold mi_R; omega) (fun hc_ => absurd (show a < 0 from hc_) (by omega)) (fun _ => ?_)
  refine mi_wp_p (pc' := 5) (st' := [.int (Int32.ofInt a)]) rfl rfl rfl ?_
  refine mi_wp_p (pc' := 6) (st' := [.ref 3, .int (Int32.ofInt a)]) rfl rfl rfl ?_
  refine ty_s_gf (x := mi_sF σ 3 7) S rfl rfl rfl (List.mem_of_getElem? (i := 4) rfl) rfl ?_
  refine mi_s_if2 (t := 21) rfl rfl rfl (by unfold mi_R; omega) (by unfold mi_R; omega) (fun hc_ => absurd (show (mi_sF σ 3 7) ≤ a from hc_) (by omega)) (fun _ => ?_)
  refine mi_wp_p (pc' := 13) (st' := [.ref 3]) rfl rfl rfl ?_
  refine ty_s_gr S rfl rfl rfl (List.mem_of_getElem? (i := 15) rfl) ?_
  refine mi_wp_p (pc' := 17) (st' := [.int (Int32.ofInt a), .ref 8]) rfl rfl rfl ?_
  refine ty_s_lld (x := mi_sE σ 8 a) S rfl rfl (List.mem_of_getElem? (i := 1) rfl) (by decide) (by omega) (by omega) rfl ?_
  refine mi_wp_p (pc' := 22) rfl rfl rfl ?_
  exact ty_s_ret S fr rfl rfl rfl rfl ⟨_, rfl, ⟨rfl, rfl⟩⟩
