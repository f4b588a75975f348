/-! ===== meet, where the type is too long to be written (printed by wip/gen/p_meetx.py) ===== -/
theorem tl_meetx {X : mi_X} {σ : mi_Sg} {d : Nat} {a b : Int} {P : mi_Sg → Prop} (a0 : 0 ≤ a) (a1 : a < mi_sF σ 17 14) (u : mi_sF σ 17 14 ≤ 24) (b0 : 0 ≤ b) (b1 : b < mi_sF σ 17 14) (H : ty_Ci X (d + 9) mi_M122 [(0, .ref 9), (1, .int (Int32.ofInt (mi_sA σ 24 a))), (2, .int (Int32.ofInt 0))] σ (fun x σ1 => (mi_sF σ1 17 14 = mi_sF σ 17 14 ∧ mi_sA σ1 24 b = mi_sA σ 24 b) ∧ ty_Ci X (d + 9) mi_M122 [(0, .ref 9), (1, .int (Int32.ofInt (mi_sA σ 24 b))), (2, .int (Int32.ofInt 0))] σ1 (fun y σ2 => ty_Ci X (d + 9) mi_M128 [(0, .ref 9), (1, .int (Int32.ofInt x)), (2, .int (Int32.ofInt y))] σ2 (fun z σ3 => z = 1 ∧ ty_Ci X (d + 9) mi_M159 [(0, .ref 52), (1, .int (Int32.ofInt x))] σ3 (fun w σ4 => w = 0 ∧ P (mi_uF σ4 9 8 (mi_sF σ4 9 9))))))) : ∀ h, ty_H h σ → mi_wp X (d + 10) mi_M12 0 [(0, .ref 0), (1, .int (Int32.ofInt a)), (2, .int (Int32.ofInt b))] [] h 0 0 (fun z => ∃ h' σ', z = (.inr 0, h', 1, 6) ∧ ty_H h' σ' ∧ mi_Fm h h' ∧ P σ') := by
  intro h S
  have fr := mi_Fm_rf h
  refine mi_wp_p (pc' := 1) (st' := [.ref 0]) rfl rfl rfl ?_
  refine ty_s_gr S rfl rfl rfl (List.mem_of_getElem? (i := 4) rfl) ?_
  refine mi_wp_p (pc' := 5) (st' := [.int (Int32.ofInt a), .ref 17]) rfl rfl rfl ?_
  refine ty_s_ci rfl rfl rfl rfl rfl rfl (mi_cal_v2 (np := 1) (args := [.ref 17, .int (Int32.ofInt a)]) (rest := []) rfl rfl rfl rfl rfl (Nat.le_of_ble_eq_true rfl) rfl rfl (Nat.le_of_ble_eq_true rfl) (ty_rcS S (List.mem_of_getElem? (i := 10) rfl))) (Nat.le_of_ble_eq_true rfl) S (kn_hasDefinition a0 a1 u) ?_
  intro x hh σu S f P
  obtain ⟨e1, e2⟩ := P
  rw [e2] at S
  rw [e1]
  clear e1 e2
  replace fr := mi_Fm_tr fr f
  refine mi_s_if1 (t := 22) rfl rfl rfl (by unfold mi_R; omega) (fun hc_ => absurd (show (1 : Int) = 0 from hc_) (by omega)) (fun _ => ?_)
  refine mi_wp_p (pc' := 12) (st' := [.ref 0]) rfl rfl rfl ?_
  refine ty_s_gr S rfl rfl rfl (List.mem_of_getElem? (i := 4) rfl) ?_
  refine mi_wp_p (pc' := 16) (st' := [.int (Int32.ofInt b), .ref 17]) rfl rfl rfl ?_
  refine ty_s_ci rfl rfl rfl rfl rfl rfl (mi_cal_v2 (np := 1) (args := [.ref 17, .int (Int32.ofInt b)]) (rest := []) rfl rfl rfl rfl rfl (Nat.le_of_ble_eq_true rfl) rfl rfl (Nat.le_of_ble_eq_true rfl) (ty_rcS S (List.mem_of_getElem? (i := 10) rfl))) (Nat.le_of_ble_eq_true rfl) S (kn_hasDefinition b0 b1 u) ?_
  intro x hh σu S f P
  obtain ⟨e1, e2⟩ := P
  rw [e2] at S
  rw [e1]
  clear e1 e2
  replace fr := mi_Fm_tr fr f
  refine mi_s_if1 (t := 32) rfl rfl rfl (by unfold mi_R; omega) (fun _ => ?_) (fun hc_ => absurd (show (1 : Int) ≠ 0 by omega) hc_)
  refine mi_wp_p (pc' := 33) (st' := [.ref 0]) rfl rfl rfl ?_
  refine ty_s_gr S rfl rfl rfl (List.mem_of_getElem? (i := 3) rfl) ?_
  refine mi_wp_p (pc' := 37) (st' := [.ref 0, .ref 9]) rfl rfl rfl ?_
  refine ty_s_gr S rfl rfl rfl (List.mem_of_getElem? (i := 4) rfl) ?_
  refine mi_wp_p (pc' := 41) (st' := [.int (Int32.ofInt a), .ref 17, .ref 9]) rfl rfl rfl ?_
  refine ty_s_ci rfl rfl rfl rfl rfl rfl (mi_cal_v2 (np := 1) (args := [.ref 17, .int (Int32.ofInt a)]) (rest := [.ref 9]) rfl rfl rfl rfl rfl (Nat.le_of_ble_eq_true rfl) rfl rfl (Nat.le_of_ble_eq_true rfl) (ty_rcS S (List.mem_of_getElem? (i := 10) rfl))) (Nat.le_of_ble_eq_true rfl) S (kn_typeOfDefinition a0 a1 u) ?_
  intro x hh σu S f P
  obtain ⟨e1, e2⟩ := P
  rw [e2] at S
  rw [e1]
  clear e1 e2
  replace fr := mi_Fm_tr fr f
  refine mi_wp_p (pc' := 45) (st' := [.int (Int32.ofInt 0), .int (Int32.ofInt (mi_sA σ 24 a)), .ref 9]) rfl rfl rfl ?_
  refine ty_s_ci rfl rfl rfl rfl rfl rfl (mi_cal_v2 (np := 2) (args := [.ref 9, .int (Int32.ofInt (mi_sA σ 24 a)), .int (Int32.ofInt 0)]) (rest := []) rfl rfl rfl rfl rfl (Nat.le_of_ble_eq_true rfl) rfl rfl (Nat.le_of_ble_eq_true rfl) (ty_rcS S (List.mem_of_getElem? (i := 5) rfl))) (Nat.le_of_ble_eq_true rfl) S H ?_
  intro x hh σ1 S f P
  obtain ⟨⟨k1, k2⟩, H2⟩ := P
  replace fr := mi_Fm_tr fr f
  refine mi_wp_p (pc' := 49) (l' := [(3, .int (Int32.ofInt x)), (0, .ref 0), (1, .int (Int32.ofInt a)), (2, .int (Int32.ofInt b))]) (st' := []) rfl rfl rfl ?_
  refine mi_wp_p (pc' := 50) (st' := [.ref 0]) rfl rfl rfl ?_
  refine ty_s_gr S rfl rfl rfl (List.mem_of_getElem? (i := 3) rfl) ?_
  refine mi_wp_p (pc' := 54) (st' := [.ref 0, .ref 9]) rfl rfl rfl ?_
  refine ty_s_gr S rfl rfl rfl (List.mem_of_getElem? (i := 4) rfl) ?_
  refine mi_wp_p (pc' := 58) (st' := [.int (Int32.ofInt b), .ref 17, .ref 9]) rfl rfl rfl ?_
  refine ty_s_ci rfl rfl rfl rfl rfl rfl (mi_cal_v2 (np := 1) (args := [.ref 17, .int (Int32.ofInt b)]) (rest := [.ref 9]) rfl rfl rfl rfl rfl (Nat.le_of_ble_eq_true rfl) rfl rfl (Nat.le_of_ble_eq_true rfl) (ty_rcS S (List.mem_of_getElem? (i := 10) rfl))) (Nat.le_of_ble_eq_true rfl) S (kn_typeOfDefinition (σ := σ1) b0 (by rw [k1]; exact b1) (by rw [k1]; exact u)) ?_
  intro x2 hh σu S f P
  obtain ⟨e1, e2⟩ := P
  rw [e2] at S
  rw [e1, k2]
  clear e1 e2
  replace fr := mi_Fm_tr fr f
  refine mi_wp_p (pc' := 62) (st' := [.int (Int32.ofInt 0), .int (Int32.ofInt (mi_sA σ 24 b)), .ref 9]) rfl rfl rfl ?_
  refine ty_s_ci rfl rfl rfl rfl rfl rfl (mi_cal_v2 (np := 2) (args := [.ref 9, .int (Int32.ofInt (mi_sA σ 24 b)), .int (Int32.ofInt 0)]) (rest := []) rfl rfl rfl rfl rfl (Nat.le_of_ble_eq_true rfl) rfl rfl (Nat.le_of_ble_eq_true rfl) (ty_rcS S (List.mem_of_getElem? (i := 5) rfl))) (Nat.le_of_ble_eq_true rfl) S H2 ?_
  intro y hh σ2 S f H3
  replace fr := mi_Fm_tr fr f
  refine mi_wp_p (pc' := 67) (l' := [(4, .int (Int32.ofInt y)), (3, .int (Int32.ofInt x)), (0, .ref 0), (1, .int (Int32.ofInt a)), (2, .int (Int32.ofInt b))]) (st' := []) rfl rfl rfl ?_
  refine mi_wp_p (pc' := 68) (st' := [.int (Int32.ofInt 1)]) rfl rfl rfl ?_
  refine mi_wp_p (pc' := 70) (l' := [(5, .int (Int32.ofInt 1)), (4, .int (Int32.ofInt y)), (3, .int (Int32.ofInt x)), (0, .ref 0), (1, .int (Int32.ofInt a)), (2, .int (Int32.ofInt b))]) (st' := []) rfl rfl rfl ?_
  refine mi_wp_p (pc' := 71) (st' := [.ref 0]) rfl rfl rfl ?_
  refine ty_s_gr S rfl rfl rfl (List.mem_of_getElem? (i := 3) rfl) ?_
  refine mi_wp_p (pc' := 75) (st' := [.int (Int32.ofInt x), .ref 9]) rfl rfl rfl ?_
  refine mi_wp_p (pc' := 77) (st' := [.int (Int32.ofInt y), .int (Int32.ofInt x), .ref 9]) rfl rfl rfl ?_
  refine ty_s_ci rfl rfl rfl rfl rfl rfl (mi_cal_v2 (np := 2) (args := [.ref 9, .int (Int32.ofInt x), .int (Int32.ofInt y)]) (rest := []) rfl rfl rfl rfl rfl (Nat.le_of_ble_eq_true rfl) rfl rfl (Nat.le_of_ble_eq_true rfl) (ty_rcS S (List.mem_of_getElem? (i := 5) rfl))) (Nat.le_of_ble_eq_true rfl) S H3 ?_
  intro z hh σ3 S f P3
  obtain ⟨ez, H4⟩ := P3
  rw [ez]
  clear ez
  replace fr := mi_Fm_tr fr f
  refine mi_s_if1 (t := 96) rfl rfl rfl (by unfold mi_R; omega) (fun hc_ => absurd (show (1 : Int) = 0 from hc_) (by omega)) (fun _ => ?_)
  refine mi_wp_p (pc' := 84) (st' := [.ref 0]) rfl rfl rfl ?_
  refine ty_s_gr S rfl rfl rfl (List.mem_of_getElem? (i := 9) rfl) ?_
  refine mi_wp_p (pc' := 88) (st' := [.int (Int32.ofInt x), .ref 52]) rfl rfl rfl ?_
  refine ty_s_ci rfl rfl rfl rfl rfl rfl (mi_cal_v2 (np := 1) (args := [.ref 52, .int (Int32.ofInt x)]) (rest := []) rfl rfl rfl rfl rfl (Nat.le_of_ble_eq_true rfl) rfl rfl (Nat.le_of_ble_eq_true rfl) (ty_rcS S (List.mem_of_getElem? (i := 27) rfl))) (Nat.le_of_ble_eq_true rfl) S H4 ?_
  intro w hh σ4 S f P4
  obtain ⟨ew, hP⟩ := P4
  rw [ew]
  clear ew
  replace fr := mi_Fm_tr fr f
  refine mi_wp_p (pc' := 93) (l' := [(5, .int (Int32.ofInt 0)), (4, .int (Int32.ofInt y)), (3, .int (Int32.ofInt x)), (0, .ref 0), (1, .int (Int32.ofInt a)), (2, .int (Int32.ofInt b))]) (st' := []) rfl rfl rfl ?_
  refine mi_wp_p (pc' := 103) rfl rfl rfl ?_
  refine mi_wp_p (pc' := 104) (st' := [.ref 0]) rfl rfl rfl ?_
  refine ty_s_gr S rfl rfl rfl (List.mem_of_getElem? (i := 3) rfl) ?_
  refine ty_s_cv rfl rfl rfl rfl rfl rfl (mi_cal_v2 (np := 0) (args := [.ref 9]) (rest := []) rfl rfl rfl rfl rfl (Nat.le_of_ble_eq_true rfl) rfl rfl (Nat.le_of_ble_eq_true rfl) (ty_rcS S (List.mem_of_getElem? (i := 5) rfl))) (Nat.le_of_ble_eq_true rfl) S ty_dropLoose ?_
  intro hh σd S f P
  subst P
  replace fr := mi_Fm_tr fr f
  refine mi_wp_p (pc' := 112) (st' := [.int (Int32.ofInt 0)]) rfl rfl rfl ?_
  refine mi_s_if1 (t := 125) rfl rfl rfl (by unfold mi_R; omega) (fun hc_ => absurd rfl hc_) (fun _ => ?_)
  exact mi_wp_x rfl (by omega) (Nat.le_of_ble_eq_true rfl) ⟨_, _, rfl, S, fr, hP⟩
