/-! ===== compile, ask (printed by wip/gen/p_comp.py) ===== -/
theorem tl_compile {X : mi_X} {σ : mi_Sg} {d : Nat} {P : Int → mi_Sg → Prop} (H : ty_Cv X (d + 1) mi_M9 [(0, .ref 0)] σ (fun σ1 => ty_Cv X (d + 1) mi_M116 [(0, .ref 3), (1, .int (Int32.ofInt (mi_sF σ1 0 10)))] (mi_uF (mi_uF σ1 2 0 0) 2 1 (-1)) (fun σ2 => ty_Cv X (d + 1) mi_M75 [(0, .ref 42), (1, .ref 26)] (mi_uF σ2 0 10 0) (fun σ3 => ty_Cv X (d + 1) mi_M22 [(0, .ref 43), (1, .ref 26)] σ3 (fun σ4 => mi_sF σ4 2 0 = 0 ∧ P 0 (mi_uF σ4 9 9 (mi_sF σ4 9 8))))))) : ty_Ci X (d + 2) mi_M5 [(0, .ref 0)] σ (fun x σ' => P x σ') := by
  intro h S
  have fr := mi_Fm_rf h
  refine mi_wp_p (pc' := 1) (st' := [.ref 0]) rfl rfl rfl ?_
  refine ty_s_cv rfl rfl rfl rfl rfl rfl (mi_cal_v2 (np := 0) (args := [.ref 0]) (rest := []) rfl rfl rfl rfl rfl (Nat.le_of_ble_eq_true rfl) rfl rfl (Nat.le_of_ble_eq_true rfl) (ty_rcS S (List.mem_of_getElem? (i := 0) rfl))) (Nat.le_of_ble_eq_true rfl) S H ?_
  intro hh σ1 S f H2
  replace fr := mi_Fm_tr fr f
  refine mi_wp_p (pc' := 5) (st' := [.ref 0]) rfl rfl rfl ?_
  refine ty_s_gr S rfl rfl rfl (List.mem_of_getElem? (i := 1) rfl) ?_
  refine ty_s_cv rfl rfl rfl rfl rfl rfl (mi_cal_v2 (np := 0) (args := [.ref 2]) (rest := []) rfl rfl rfl rfl rfl (Nat.le_of_ble_eq_true rfl) rfl rfl (Nat.le_of_ble_eq_true rfl) (ty_rcS S (List.mem_of_getElem? (i := 1) rfl))) (Nat.le_of_ble_eq_true rfl) S fa_clear ?_
  intro hh σc S f P
  subst P
  replace fr := mi_Fm_tr fr f
  refine mi_wp_p (pc' := 12) (st' := [.ref 0]) rfl rfl rfl ?_
  refine ty_s_gr S rfl rfl rfl (List.mem_of_getElem? (i := 2) rfl) ?_
  refine mi_wp_p (pc' := 16) (st' := [.ref 0, .ref 3]) rfl rfl rfl ?_
  refine ty_s_gf (x := mi_sF (mi_uF (mi_uF σ1 2 0 0) 2 1 (-1)) 0 10) S rfl rfl rfl (List.mem_of_getElem? (i := 0) rfl) rfl ?_
  refine ty_s_cv rfl rfl rfl rfl rfl rfl (mi_cal_v2 (np := 1) (args := [.ref 3, .int (Int32.ofInt (mi_sF (mi_uF (mi_uF σ1 2 0 0) 2 1 (-1)) 0 10))]) (rest := []) rfl rfl rfl rfl rfl (Nat.le_of_ble_eq_true rfl) rfl rfl (Nat.le_of_ble_eq_true rfl) (ty_rcS S (List.mem_of_getElem? (i := 3) rfl))) (Nat.le_of_ble_eq_true rfl) S H2 ?_
  intro hh σ2 S f H3
  replace fr := mi_Fm_tr fr f
  refine mi_wp_p (pc' := 23) (st' := [.ref 0]) rfl rfl rfl ?_
  refine mi_wp_p (pc' := 24) (st' := [.int (Int32.ofInt 0), .ref 0]) rfl rfl rfl ?_
  refine ty_s_pf S rfl rfl rfl (List.mem_of_getElem? (i := 0) rfl) (by decide) mi_fit_int (Or.inl rfl) ?_
  intro h1 S f
  replace fr := mi_Fm_tr fr f
  refine mi_wp_p (pc' := 28) (st' := [.ref 0]) rfl rfl rfl ?_
  refine ty_s_gr S rfl rfl rfl (List.mem_of_getElem? (i := 7) rfl) ?_
  refine mi_wp_p (pc' := 32) (st' := [.ref 0, .ref 42]) rfl rfl rfl ?_
  refine ty_s_gr S rfl rfl rfl (List.mem_of_getElem? (i := 5) rfl) ?_
  refine ty_s_cv rfl rfl rfl rfl rfl rfl (mi_cal_v2 (np := 1) (args := [.ref 42, .ref 26]) (rest := []) rfl rfl rfl rfl rfl (Nat.le_of_ble_eq_true rfl) rfl rfl (Nat.le_of_ble_eq_true rfl) (ty_rcS S (List.mem_of_getElem? (i := 18) rfl))) (Nat.le_of_ble_eq_true rfl) S H3 ?_
  intro hh σ3 S f H4
  replace fr := mi_Fm_tr fr f
  refine mi_wp_p (pc' := 39) (st' := [.ref 0]) rfl rfl rfl ?_
  refine ty_s_gr S rfl rfl rfl (List.mem_of_getElem? (i := 8) rfl) ?_
  refine mi_wp_p (pc' := 43) (st' := [.ref 0, .ref 43]) rfl rfl rfl ?_
  refine ty_s_gr S rfl rfl rfl (List.mem_of_getElem? (i := 5) rfl) ?_
  refine ty_s_cv rfl rfl rfl rfl rfl rfl (mi_cal_v2 (np := 1) (args := [.ref 43, .ref 26]) (rest := []) rfl rfl rfl rfl rfl (Nat.le_of_ble_eq_true rfl) rfl rfl (Nat.le_of_ble_eq_true rfl) (ty_rcS S (List.mem_of_getElem? (i := 19) rfl))) (Nat.le_of_ble_eq_true rfl) S H4 ?_
  intro hh σ4 S f P4
  obtain ⟨f0, hP⟩ := P4
  replace fr := mi_Fm_tr fr f
  refine mi_wp_p (pc' := 50) (st' := [.ref 0]) rfl rfl rfl ?_
  refine ty_s_gr S rfl rfl rfl (List.mem_of_getElem? (i := 1) rfl) ?_
  refine ty_s_ci rfl rfl rfl rfl rfl rfl (mi_cal_v2 (np := 0) (args := [.ref 2]) (rest := []) rfl rfl rfl rfl rfl (Nat.le_of_ble_eq_true rfl) rfl rfl (Nat.le_of_ble_eq_true rfl) (ty_rcS S (List.mem_of_getElem? (i := 1) rfl))) (Nat.le_of_ble_eq_true rfl) S (fa_stands f0) ?_
  intro x hh σu S f P
  obtain ⟨e1, e2⟩ := P
  rw [e2] at S
  rw [e1]
  clear e1 e2
  replace fr := mi_Fm_tr fr f
  refine mi_s_if1 (t := 66) rfl rfl rfl (by unfold mi_R; omega) (fun _ => ?_) (fun hc_ => absurd (show (0 : Int) = 0 by omega) hc_)
  refine mi_wp_p (pc' := 67) (st' := [.ref 0]) rfl rfl rfl ?_
  refine ty_s_gr S rfl rfl rfl (List.mem_of_getElem? (i := 3) rfl) ?_
  refine ty_s_cv rfl rfl rfl rfl rfl rfl (mi_cal_v2 (np := 0) (args := [.ref 9]) (rest := []) rfl rfl rfl rfl rfl (Nat.le_of_ble_eq_true rfl) rfl rfl (Nat.le_of_ble_eq_true rfl) (ty_rcS S (List.mem_of_getElem? (i := 5) rfl))) (Nat.le_of_ble_eq_true rfl) S ty_keep ?_
  intro hh σk S f P
  subst P
  replace fr := mi_Fm_tr fr f
  refine mi_wp_p (pc' := 74) (st' := [.ref 0]) rfl rfl rfl ?_
  refine ty_s_gr S rfl rfl rfl (List.mem_of_getElem? (i := 1) rfl) ?_
  refine ty_s_gf (x := mi_sF (mi_uF σ4 9 9 (mi_sF σ4 9 8)) 2 0) S rfl rfl rfl (List.mem_of_getElem? (i := 1) rfl) rfl ?_
  refine mi_s_top (b := 0) f0 ?_
  exact ty_s_ret S fr rfl rfl rfl (mi_ret_i rfl) ⟨_, rfl, hP⟩
theorem tl_ask {X : mi_X} {σ : mi_Sg} {d : Nat} {P : Int → mi_Sg → Prop} (H : ty_Cv X (d + 1) mi_M116 [(0, .ref 3), (1, .int (Int32.ofInt (mi_sF σ 0 10)))] (mi_uF (mi_uF σ 2 0 0) 2 1 (-1)) (fun σ1 => ty_Ci X (d + 1) mi_M76 [(0, .ref 42), (1, .ref 34)] (mi_uF σ1 0 10 0) (fun x σ2 => ty_Cv X (d + 1) mi_M22 [(0, .ref 43), (1, .ref 34)] σ2 (fun σ3 => mi_sF σ3 2 0 = 0 ∧ (0 ≤ x ∧ x < mi_sF σ3 34 7 ∧ mi_sF σ3 34 7 ≤ 1024) ∧ ty_Ci X (d + 1) mi_M159 [(0, .ref 52), (1, .int (Int32.ofInt (mi_sA σ3 41 x)))] σ3 (fun w σ4 => w = 1 ∧ mi_sF σ4 2 0 = 0 ∧ P 0 (mi_uF σ4 9 8 (mi_sF σ4 9 9))))))) : ty_Ci X (d + 2) mi_M3 [(0, .ref 0)] σ (fun x σ' => P x σ') := by
  intro h S
  have fr := mi_Fm_rf h
  refine mi_wp_p (pc' := 1) (st' := [.ref 0]) rfl rfl rfl ?_
  refine ty_s_gr S rfl rfl rfl (List.mem_of_getElem? (i := 1) rfl) ?_
  refine ty_s_cv rfl rfl rfl rfl rfl rfl (mi_cal_v2 (np := 0) (args := [.ref 2]) (rest := []) rfl rfl rfl rfl rfl (Nat.le_of_ble_eq_true rfl) rfl rfl (Nat.le_of_ble_eq_true rfl) (ty_rcS S (List.mem_of_getElem? (i := 1) rfl))) (Nat.le_of_ble_eq_true rfl) S fa_clear ?_
  intro hh σc S f P
  subst P
  replace fr := mi_Fm_tr fr f
  refine mi_wp_p (pc' := 8) (st' := [.ref 0]) rfl rfl rfl ?_
  refine ty_s_gr S rfl rfl rfl (List.mem_of_getElem? (i := 2) rfl) ?_
  refine mi_wp_p (pc' := 12) (st' := [.ref 0, .ref 3]) rfl rfl rfl ?_
  refine ty_s_gf (x := mi_sF (mi_uF (mi_uF σ 2 0 0) 2 1 (-1)) 0 10) S rfl rfl rfl (List.mem_of_getElem? (i := 0) rfl) rfl ?_
  refine ty_s_cv rfl rfl rfl rfl rfl rfl (mi_cal_v2 (np := 1) (args := [.ref 3, .int (Int32.ofInt (mi_sF (mi_uF (mi_uF σ 2 0 0) 2 1 (-1)) 0 10))]) (rest := []) rfl rfl rfl rfl rfl (Nat.le_of_ble_eq_true rfl) rfl rfl (Nat.le_of_ble_eq_true rfl) (ty_rcS S (List.mem_of_getElem? (i := 3) rfl))) (Nat.le_of_ble_eq_true rfl) S H ?_
  intro hh σ1 S f H2
  replace fr := mi_Fm_tr fr f
  refine mi_wp_p (pc' := 19) (st' := [.ref 0]) rfl rfl rfl ?_
  refine mi_wp_p (pc' := 20) (st' := [.int (Int32.ofInt 0), .ref 0]) rfl rfl rfl ?_
  refine ty_s_pf S rfl rfl rfl (List.mem_of_getElem? (i := 0) rfl) (by decide) mi_fit_int (Or.inl rfl) ?_
  intro h2 S f
  replace fr := mi_Fm_tr fr f
  refine mi_wp_p (pc' := 24) (st' := [.ref 0]) rfl rfl rfl ?_
  refine ty_s_gr S rfl rfl rfl (List.mem_of_getElem? (i := 7) rfl) ?_
  refine mi_wp_p (pc' := 28) (st' := [.ref 0, .ref 42]) rfl rfl rfl ?_
  refine ty_s_gr S rfl rfl rfl (List.mem_of_getElem? (i := 6) rfl) ?_
  refine ty_s_ci rfl rfl rfl rfl rfl rfl (mi_cal_v2 (np := 1) (args := [.ref 42, .ref 34]) (rest := []) rfl rfl rfl rfl rfl (Nat.le_of_ble_eq_true rfl) rfl rfl (Nat.le_of_ble_eq_true rfl) (ty_rcS S (List.mem_of_getElem? (i := 18) rfl))) (Nat.le_of_ble_eq_true rfl) S H2 ?_
  intro xr hh σ2 S f H3
  replace fr := mi_Fm_tr fr f
  refine mi_wp_p (pc' := 35) (l' := [(1, .int (Int32.ofInt xr)), (0, .ref 0)]) (st' := []) rfl rfl rfl ?_
  refine mi_wp_p (pc' := 36) (st' := [.ref 0]) rfl rfl rfl ?_
  refine ty_s_gr S rfl rfl rfl (List.mem_of_getElem? (i := 8) rfl) ?_
  refine mi_wp_p (pc' := 40) (st' := [.ref 0, .ref 43]) rfl rfl rfl ?_
  refine ty_s_gr S rfl rfl rfl (List.mem_of_getElem? (i := 6) rfl) ?_
  refine ty_s_cv rfl rfl rfl rfl rfl rfl (mi_cal_v2 (np := 1) (args := [.ref 43, .ref 34]) (rest := []) rfl rfl rfl rfl rfl (Nat.le_of_ble_eq_true rfl) rfl rfl (Nat.le_of_ble_eq_true rfl) (ty_rcS S (List.mem_of_getElem? (i := 19) rfl))) (Nat.le_of_ble_eq_true rfl) S H3 ?_
  intro hh σ3 S f P3
  obtain ⟨f00, ⟨x0, x1, x2⟩, H4⟩ := P3
  replace fr := mi_Fm_tr fr f
  refine mi_wp_p (pc' := 47) (st' := [.ref 0]) rfl rfl rfl ?_
  refine ty_s_gr S rfl rfl rfl (List.mem_of_getElem? (i := 1) rfl) ?_
  refine ty_s_ci rfl rfl rfl rfl rfl rfl (mi_cal_v2 (np := 0) (args := [.ref 2]) (rest := []) rfl rfl rfl rfl rfl (Nat.le_of_ble_eq_true rfl) rfl rfl (Nat.le_of_ble_eq_true rfl) (ty_rcS S (List.mem_of_getElem? (i := 1) rfl))) (Nat.le_of_ble_eq_true rfl) S (fa_stands f00) ?_
  intro x hh σu S f P
  obtain ⟨e1, e2⟩ := P
  rw [e2] at S
  rw [e1]
  clear e1 e2
  replace fr := mi_Fm_tr fr f
  refine mi_s_if1 (t := 91) rfl rfl rfl (by unfold mi_R; omega) (fun hc_ => absurd (show (0 : Int) ≠ 0 from hc_) (by omega)) (fun _ => ?_)
  refine mi_wp_p (pc' := 57) (st' := [.ref 0]) rfl rfl rfl ?_
  refine ty_s_gr S rfl rfl rfl (List.mem_of_getElem? (i := 9) rfl) ?_
  refine mi_wp_p (pc' := 61) (st' := [.ref 0, .ref 52]) rfl rfl rfl ?_
  refine ty_s_gr S rfl rfl rfl (List.mem_of_getElem? (i := 6) rfl) ?_
  refine mi_wp_p (pc' := 65) (st' := [.int (Int32.ofInt xr), .ref 34, .ref 52]) rfl rfl rfl ?_
  refine ty_s_ci rfl rfl rfl rfl rfl rfl (mi_cal_v2 (np := 1) (args := [.ref 34, .int (Int32.ofInt xr)]) (rest := [.ref 52]) rfl rfl rfl rfl rfl (Nat.le_of_ble_eq_true rfl) rfl rfl (Nat.le_of_ble_eq_true rfl) (ty_rcS S (List.mem_of_getElem? (i := 17) rfl))) (Nat.le_of_ble_eq_true rfl) S (st34_typeOf x0 x1 x2) ?_
  intro x hh σu S f P
  obtain ⟨e1, e2⟩ := P
  rw [e2] at S
  rw [e1]
  clear e1 e2
  replace fr := mi_Fm_tr fr f
  refine ty_s_ci rfl rfl rfl rfl rfl rfl (mi_cal_v2 (np := 1) (args := [.ref 52, .int (Int32.ofInt (mi_sA σ3 41 xr))]) (rest := []) rfl rfl rfl rfl rfl (Nat.le_of_ble_eq_true rfl) rfl rfl (Nat.le_of_ble_eq_true rfl) (ty_rcS S (List.mem_of_getElem? (i := 27) rfl))) (Nat.le_of_ble_eq_true rfl) S H4 ?_
  intro w hh σ4 S f P4
  obtain ⟨ew, f0, hP⟩ := P4
  rw [ew]
  clear ew
  replace fr := mi_Fm_tr fr f
  refine mi_s_if1 (t := 91) rfl rfl rfl (by unfold mi_R; omega) (fun _ => ?_) (fun hc_ => absurd (show (1 : Int) ≠ 0 by omega) hc_)
  refine mi_wp_p (pc' := 92) (st' := [.ref 0]) rfl rfl rfl ?_
  refine ty_s_gr S rfl rfl rfl (List.mem_of_getElem? (i := 3) rfl) ?_
  refine ty_s_cv rfl rfl rfl rfl rfl rfl (mi_cal_v2 (np := 0) (args := [.ref 9]) (rest := []) rfl rfl rfl rfl rfl (Nat.le_of_ble_eq_true rfl) rfl rfl (Nat.le_of_ble_eq_true rfl) (ty_rcS S (List.mem_of_getElem? (i := 5) rfl))) (Nat.le_of_ble_eq_true rfl) S ty_dropLoose ?_
  intro hh σd S f P
  subst P
  replace fr := mi_Fm_tr fr f
  refine mi_wp_p (pc' := 99) (st' := [.ref 0]) rfl rfl rfl ?_
  refine ty_s_gr S rfl rfl rfl (List.mem_of_getElem? (i := 1) rfl) ?_
  refine ty_s_gf (x := mi_sF (mi_uF σ4 9 8 (mi_sF σ4 9 9)) 2 0) S rfl rfl rfl (List.mem_of_getElem? (i := 1) rfl) rfl ?_
  refine mi_s_top (b := 0) f0 ?_
  exact ty_s_ret S fr rfl rfl rfl (mi_ret_i rfl) ⟨_, rfl, hP⟩
