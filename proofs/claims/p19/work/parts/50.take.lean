/-! ===== Forms.take by kinds; a turn of run (printed by wip/gen/p_take.py) ===== -/
theorem ft6_Int {X : mi_X} {σ : mi_Sg} {d : Nat} {tk b : Int} (t0 : 0 ≤ tk) (t1 : tk < mi_sF σ 3 7) (t2 : mi_sF σ 3 7 ≤ 301) (K : kb σ) (hk : mi_sE σ 8 tk = 6909556) : ty_Cv X (d + 3) mi_M37 [(0, .ref 48), (1, .int (Int32.ofInt 6)), (2, .int (Int32.ofInt tk)), (3, .int (Int32.ofInt b))] σ (fun σ' => σ' = σ) := by
  intro h S
  have fr := mi_Fm_rf h
  refine mi_wp_p (pc' := 1) (st' := [.int (Int32.ofInt 6)]) rfl rfl rfl ?_
  refine mi_wp_p (pc' := 115) (l' := [(0, .ref 48), (1, .int (Int32.ofInt 6)), (2, .int (Int32.ofInt tk)), (3, .int (Int32.ofInt b))]) (st' := []) rfl rfl rfl ?_
  refine mi_wp_p (pc' := 116) (st' := [.ref 48]) rfl rfl rfl ?_
  refine mi_wp_p (pc' := 117) (st' := [.ref 48, .ref 48]) rfl rfl rfl ?_
  refine mi_wp_p (pc' := 118) (st' := [.int (Int32.ofInt tk), .ref 48, .ref 48]) rfl rfl rfl ?_
  refine ty_s_ci rfl rfl rfl rfl rfl rfl (mi_cal_v2 (np := 1) (args := [.ref 48, .int (Int32.ofInt tk)]) (rest := [.ref 48]) rfl rfl rfl rfl rfl (Nat.le_of_ble_eq_true rfl) rfl rfl (Nat.le_of_ble_eq_true rfl) (ty_rcS S (List.mem_of_getElem? (i := 24) rfl))) (Nat.le_of_ble_eq_true rfl) S (fo_typeNamed t0 t1 t2 K.1) ?_
  intro x hh σu S f P
  obtain ⟨P, e2⟩ := P
  rw [e2] at S
  rw [kb_int K P hk]
  clear P e2
  replace fr := mi_Fm_tr fr f
  refine mi_wp_p (pc' := 122) (st' := [.int (Int32.ofInt (-1)), .int (Int32.ofInt 0), .ref 48]) rfl rfl rfl ?_
  refine mi_s_if2 (t := 129) rfl rfl rfl (by unfold mi_R; omega) (by unfold mi_R; omega) (fun _ => ?_) (fun hc_ => absurd (show (0 : Int) ≠ (-1) by omega) hc_)
  refine mi_wp_p (pc' := 130) (st' := [.int (Int32.ofInt 0), .ref 48]) rfl rfl rfl ?_
  refine mi_wp_p (pc' := 131) (st' := [.int (Int32.ofInt 2), .int (Int32.ofInt 0), .ref 48]) rfl rfl rfl ?_
  refine mi_wp_p (pc' := 132) (st' := [.int (Int32.ofInt tk), .int (Int32.ofInt 2), .int (Int32.ofInt 0), .ref 48]) rfl rfl rfl ?_
  refine ty_s_cv rfl rfl rfl rfl rfl rfl (mi_cal_v2 (np := 3) (args := [.ref 48, .int (Int32.ofInt 0), .int (Int32.ofInt 2), .int (Int32.ofInt tk)]) (rest := []) rfl rfl rfl rfl rfl (Nat.le_of_ble_eq_true rfl) rfl rfl (Nat.le_of_ble_eq_true rfl) (ty_rcS S (List.mem_of_getElem? (i := 24) rfl))) (Nat.le_of_ble_eq_true rfl) S fo_tellIf0 ?_
  intro hh σu S f P
  obtain rfl := P.symm
  replace fr := mi_Fm_tr fr f
  refine mi_wp_p (pc' := 162) rfl rfl rfl ?_
  exact ty_s_ret S fr rfl rfl rfl rfl ⟨rfl, rfl⟩
theorem ft6_Bool {X : mi_X} {σ : mi_Sg} {d : Nat} {tk b : Int} (t0 : 0 ≤ tk) (t1 : tk < mi_sF σ 3 7) (t2 : mi_sF σ 3 7 ≤ 301) (K : kb σ) (hk : mi_sE σ 8 tk = 1651470188) : ty_Cv X (d + 3) mi_M37 [(0, .ref 48), (1, .int (Int32.ofInt 6)), (2, .int (Int32.ofInt tk)), (3, .int (Int32.ofInt b))] σ (fun σ' => σ' = σ) := by
  intro h S
  have fr := mi_Fm_rf h
  refine mi_wp_p (pc' := 1) (st' := [.int (Int32.ofInt 6)]) rfl rfl rfl ?_
  refine mi_wp_p (pc' := 115) (l' := [(0, .ref 48), (1, .int (Int32.ofInt 6)), (2, .int (Int32.ofInt tk)), (3, .int (Int32.ofInt b))]) (st' := []) rfl rfl rfl ?_
  refine mi_wp_p (pc' := 116) (st' := [.ref 48]) rfl rfl rfl ?_
  refine mi_wp_p (pc' := 117) (st' := [.ref 48, .ref 48]) rfl rfl rfl ?_
  refine mi_wp_p (pc' := 118) (st' := [.int (Int32.ofInt tk), .ref 48, .ref 48]) rfl rfl rfl ?_
  refine ty_s_ci rfl rfl rfl rfl rfl rfl (mi_cal_v2 (np := 1) (args := [.ref 48, .int (Int32.ofInt tk)]) (rest := [.ref 48]) rfl rfl rfl rfl rfl (Nat.le_of_ble_eq_true rfl) rfl rfl (Nat.le_of_ble_eq_true rfl) (ty_rcS S (List.mem_of_getElem? (i := 24) rfl))) (Nat.le_of_ble_eq_true rfl) S (fo_typeNamed t0 t1 t2 K.1) ?_
  intro x hh σu S f P
  obtain ⟨P, e2⟩ := P
  rw [e2] at S
  rw [kb_bool K P hk]
  clear P e2
  replace fr := mi_Fm_tr fr f
  refine mi_wp_p (pc' := 122) (st' := [.int (Int32.ofInt (-1)), .int (Int32.ofInt 1), .ref 48]) rfl rfl rfl ?_
  refine mi_s_if2 (t := 129) rfl rfl rfl (by unfold mi_R; omega) (by unfold mi_R; omega) (fun _ => ?_) (fun hc_ => absurd (show (1 : Int) ≠ (-1) by omega) hc_)
  refine mi_wp_p (pc' := 130) (st' := [.int (Int32.ofInt 0), .ref 48]) rfl rfl rfl ?_
  refine mi_wp_p (pc' := 131) (st' := [.int (Int32.ofInt 2), .int (Int32.ofInt 0), .ref 48]) rfl rfl rfl ?_
  refine mi_wp_p (pc' := 132) (st' := [.int (Int32.ofInt tk), .int (Int32.ofInt 2), .int (Int32.ofInt 0), .ref 48]) rfl rfl rfl ?_
  refine ty_s_cv rfl rfl rfl rfl rfl rfl (mi_cal_v2 (np := 3) (args := [.ref 48, .int (Int32.ofInt 0), .int (Int32.ofInt 2), .int (Int32.ofInt tk)]) (rest := []) rfl rfl rfl rfl rfl (Nat.le_of_ble_eq_true rfl) rfl rfl (Nat.le_of_ble_eq_true rfl) (ty_rcS S (List.mem_of_getElem? (i := 24) rfl))) (Nat.le_of_ble_eq_true rfl) S fo_tellIf0 ?_
  intro hh σu S f P
  obtain rfl := P.symm
  replace fr := mi_Fm_tr fr f
  refine mi_wp_p (pc' := 162) rfl rfl rfl ?_
  exact ty_s_ret S fr rfl rfl rfl rfl ⟨rfl, rfl⟩
theorem ft6_List {X : mi_X} {σ : mi_Sg} {d : Nat} {tk b : Int} (t0 : 0 ≤ tk) (t1 : tk < mi_sF σ 3 7) (t2 : mi_sF σ 3 7 ≤ 301) (K : kb σ) (hk : mi_sE σ 8 tk = 1818850164) : ty_Cv X (d + 3) mi_M37 [(0, .ref 48), (1, .int (Int32.ofInt 6)), (2, .int (Int32.ofInt tk)), (3, .int (Int32.ofInt b))] σ (fun σ' => σ' = σ) := by
  intro h S
  have fr := mi_Fm_rf h
  refine mi_wp_p (pc' := 1) (st' := [.int (Int32.ofInt 6)]) rfl rfl rfl ?_
  refine mi_wp_p (pc' := 115) (l' := [(0, .ref 48), (1, .int (Int32.ofInt 6)), (2, .int (Int32.ofInt tk)), (3, .int (Int32.ofInt b))]) (st' := []) rfl rfl rfl ?_
  refine mi_wp_p (pc' := 116) (st' := [.ref 48]) rfl rfl rfl ?_
  refine mi_wp_p (pc' := 117) (st' := [.ref 48, .ref 48]) rfl rfl rfl ?_
  refine mi_wp_p (pc' := 118) (st' := [.int (Int32.ofInt tk), .ref 48, .ref 48]) rfl rfl rfl ?_
  refine ty_s_ci rfl rfl rfl rfl rfl rfl (mi_cal_v2 (np := 1) (args := [.ref 48, .int (Int32.ofInt tk)]) (rest := [.ref 48]) rfl rfl rfl rfl rfl (Nat.le_of_ble_eq_true rfl) rfl rfl (Nat.le_of_ble_eq_true rfl) (ty_rcS S (List.mem_of_getElem? (i := 24) rfl))) (Nat.le_of_ble_eq_true rfl) S (fo_typeNamed t0 t1 t2 K.1) ?_
  intro x hh σu S f P
  obtain ⟨P, e2⟩ := P
  rw [e2] at S
  rw [kb_list K P hk]
  clear P e2
  replace fr := mi_Fm_tr fr f
  refine mi_wp_p (pc' := 122) (st' := [.int (Int32.ofInt (-1)), .int (Int32.ofInt 2), .ref 48]) rfl rfl rfl ?_
  refine mi_s_if2 (t := 129) rfl rfl rfl (by unfold mi_R; omega) (by unfold mi_R; omega) (fun _ => ?_) (fun hc_ => absurd (show (2 : Int) ≠ (-1) by omega) hc_)
  refine mi_wp_p (pc' := 130) (st' := [.int (Int32.ofInt 0), .ref 48]) rfl rfl rfl ?_
  refine mi_wp_p (pc' := 131) (st' := [.int (Int32.ofInt 2), .int (Int32.ofInt 0), .ref 48]) rfl rfl rfl ?_
  refine mi_wp_p (pc' := 132) (st' := [.int (Int32.ofInt tk), .int (Int32.ofInt 2), .int (Int32.ofInt 0), .ref 48]) rfl rfl rfl ?_
  refine ty_s_cv rfl rfl rfl rfl rfl rfl (mi_cal_v2 (np := 3) (args := [.ref 48, .int (Int32.ofInt 0), .int (Int32.ofInt 2), .int (Int32.ofInt tk)]) (rest := []) rfl rfl rfl rfl rfl (Nat.le_of_ble_eq_true rfl) rfl rfl (Nat.le_of_ble_eq_true rfl) (ty_rcS S (List.mem_of_getElem? (i := 24) rfl))) (Nat.le_of_ble_eq_true rfl) S fo_tellIf0 ?_
  intro hh σu S f P
  obtain rfl := P.symm
  replace fr := mi_Fm_tr fr f
  refine mi_wp_p (pc' := 162) rfl rfl rfl ?_
  exact ty_s_ret S fr rfl rfl rfl rfl ⟨rfl, rfl⟩
section FT5
theorem ft5 {X : mi_X} {σ : mi_Sg} {d : Nat} {tk b : Int} {P : mi_Sg → Prop} (H : ty_Cv X d mi_M41 [(0, .ref 48), (1, .int (Int32.ofInt tk))] σ P) : ty_Cv X (d + 1) mi_M37 [(0, .ref 48), (1, .int (Int32.ofInt 5)), (2, .int (Int32.ofInt tk)), (3, .int (Int32.ofInt b))] σ (fun σ' => P σ') := by
  intro h S
  have fr := mi_Fm_rf h
  refine mi_wp_p (pc' := 1) (st' := [.int (Int32.ofInt 5)]) rfl rfl rfl ?_
  refine mi_wp_p (pc' := 107) (l' := [(0, .ref 48), (1, .int (Int32.ofInt 5)), (2, .int (Int32.ofInt tk)), (3, .int (Int32.ofInt b))]) (st' := []) rfl rfl rfl ?_
  refine mi_wp_p (pc' := 108) (st' := [.ref 48]) rfl rfl rfl ?_
  refine mi_wp_p (pc' := 109) (st' := [.int (Int32.ofInt tk), .ref 48]) rfl rfl rfl ?_
  refine ty_s_cv rfl rfl rfl rfl rfl rfl (mi_cal_v2 (np := 1) (args := [.ref 48, .int (Int32.ofInt tk)]) (rest := []) rfl rfl rfl rfl rfl (Nat.le_of_ble_eq_true rfl) rfl rfl (Nat.le_of_ble_eq_true rfl) (ty_rcS S (List.mem_of_getElem? (i := 24) rfl))) (Nat.le_of_ble_eq_true rfl) S H ?_
  intro hh σ1 S f P1
  replace fr := mi_Fm_tr fr f
  refine mi_wp_p (pc' := 162) rfl rfl rfl ?_
  exact ty_s_ret S fr rfl rfl rfl rfl ⟨rfl, P1⟩
theorem ft7 {X : mi_X} {σ : mi_Sg} {d : Nat} {tk b : Int} {P : mi_Sg → Prop} (H : ty_Cv X d mi_M42 [(0, .ref 48), (1, .int (Int32.ofInt tk)), (2, .int (Int32.ofInt b))] σ P) : ty_Cv X (d + 1) mi_M37 [(0, .ref 48), (1, .int (Int32.ofInt 7)), (2, .int (Int32.ofInt tk)), (3, .int (Int32.ofInt b))] σ (fun σ' => P σ') := by
  intro h S
  have fr := mi_Fm_rf h
  refine mi_wp_p (pc' := 1) (st' := [.int (Int32.ofInt 7)]) rfl rfl rfl ?_
  refine mi_wp_p (pc' := 138) (l' := [(0, .ref 48), (1, .int (Int32.ofInt 7)), (2, .int (Int32.ofInt tk)), (3, .int (Int32.ofInt b))]) (st' := []) rfl rfl rfl ?_
  refine mi_wp_p (pc' := 139) (st' := [.ref 48]) rfl rfl rfl ?_
  refine mi_wp_p (pc' := 140) (st' := [.int (Int32.ofInt tk), .ref 48]) rfl rfl rfl ?_
  refine mi_wp_p (pc' := 141) (st' := [.int (Int32.ofInt b), .int (Int32.ofInt tk), .ref 48]) rfl rfl rfl ?_
  refine ty_s_cv rfl rfl rfl rfl rfl rfl (mi_cal_v2 (np := 2) (args := [.ref 48, .int (Int32.ofInt tk), .int (Int32.ofInt b)]) (rest := []) rfl rfl rfl rfl rfl (Nat.le_of_ble_eq_true rfl) rfl rfl (Nat.le_of_ble_eq_true rfl) (ty_rcS S (List.mem_of_getElem? (i := 24) rfl))) (Nat.le_of_ble_eq_true rfl) S H ?_
  intro hh σ1 S f P1
  replace fr := mi_Fm_tr fr f
  refine mi_wp_p (pc' := 162) rfl rfl rfl ?_
  exact ty_s_ret S fr rfl rfl rfl rfl ⟨rfl, P1⟩
theorem ft8 {X : mi_X} {σ : mi_Sg} {d : Nat} {tk b : Int} {P : mi_Sg → Prop} (H : ty_Cv X d mi_M34 [(0, .ref 48)] σ P) : ty_Cv X (d + 1) mi_M37 [(0, .ref 48), (1, .int (Int32.ofInt 8)), (2, .int (Int32.ofInt tk)), (3, .int (Int32.ofInt b))] σ (fun σ' => P σ') := by
  intro h S
  have fr := mi_Fm_rf h
  refine mi_wp_p (pc' := 1) (st' := [.int (Int32.ofInt 8)]) rfl rfl rfl ?_
  refine mi_wp_p (pc' := 147) (l' := [(0, .ref 48), (1, .int (Int32.ofInt 8)), (2, .int (Int32.ofInt tk)), (3, .int (Int32.ofInt b))]) (st' := []) rfl rfl rfl ?_
  refine mi_wp_p (pc' := 148) (st' := [.ref 48]) rfl rfl rfl ?_
  refine ty_s_cv rfl rfl rfl rfl rfl rfl (mi_cal_v2 (np := 0) (args := [.ref 48]) (rest := []) rfl rfl rfl rfl rfl (Nat.le_of_ble_eq_true rfl) rfl rfl (Nat.le_of_ble_eq_true rfl) (ty_rcS S (List.mem_of_getElem? (i := 24) rfl))) (Nat.le_of_ble_eq_true rfl) S H ?_
  intro hh σ1 S f P1
  replace fr := mi_Fm_tr fr f
  refine mi_wp_p (pc' := 162) rfl rfl rfl ?_
  exact ty_s_ret S fr rfl rfl rfl rfl ⟨rfl, P1⟩
theorem ft9 {X : mi_X} {σ : mi_Sg} {d : Nat} {tk b : Int} {P : mi_Sg → Prop} (H : ty_Cv X d mi_M33 [(0, .ref 48), (1, .int (Int32.ofInt tk))] σ P) : ty_Cv X (d + 1) mi_M37 [(0, .ref 48), (1, .int (Int32.ofInt 9)), (2, .int (Int32.ofInt tk)), (3, .int (Int32.ofInt b))] σ (fun σ' => P σ') := by
  intro h S
  have fr := mi_Fm_rf h
  refine mi_wp_p (pc' := 1) (st' := [.int (Int32.ofInt 9)]) rfl rfl rfl ?_
  refine mi_wp_p (pc' := 154) (l' := [(0, .ref 48), (1, .int (Int32.ofInt 9)), (2, .int (Int32.ofInt tk)), (3, .int (Int32.ofInt b))]) (st' := []) rfl rfl rfl ?_
  refine mi_wp_p (pc' := 155) (st' := [.ref 48]) rfl rfl rfl ?_
  refine mi_wp_p (pc' := 156) (st' := [.int (Int32.ofInt tk), .ref 48]) rfl rfl rfl ?_
  refine ty_s_cv rfl rfl rfl rfl rfl rfl (mi_cal_v2 (np := 1) (args := [.ref 48, .int (Int32.ofInt tk)]) (rest := []) rfl rfl rfl rfl rfl (Nat.le_of_ble_eq_true rfl) rfl rfl (Nat.le_of_ble_eq_true rfl) (ty_rcS S (List.mem_of_getElem? (i := 24) rfl))) (Nat.le_of_ble_eq_true rfl) S H ?_
  intro hh σ1 S f P1
  replace fr := mi_Fm_tr fr f
  refine mi_wp_p (pc' := 162) rfl rfl rfl ?_
  exact ty_s_ret S fr rfl rfl rfl rfl ⟨rfl, P1⟩
end FT5
/-- run from its loop on, at step n -/
def RH (X : mi_X) (d : Nat) (h0 : mi_H) (Q : mi_Z → Prop) (n : Int) (σ : mi_Sg) : Prop := ∀ h, ty_H h σ → mi_Fm h0 h → mi_wp X (d + 12) mi_M22 11 [(2, .int (Int32.ofInt n)), (0, .ref 43), (1, .ref 26)] [] h 0 0 Q
theorem rh_form {X : mi_X} {d : Nat} {h0 : mi_H} {Q : mi_Z → Prop} {n k a b : Int} {σ : mi_Sg} (n0 : 0 ≤ n) (n1 : n < mi_sF σ 26 7) (n2 : mi_sF σ 26 7 ≤ 1024) (f0 : mi_sF σ 2 0 = 0) (e1 : mi_sA σ 27 n = k) (e2 : mi_sA σ 28 n = a) (e3 : mi_sA σ 29 n = b) {P : mi_Sg → Prop} (hk : 0 ≤ k ∧ k < 10) (H : ty_Cv X (d + 11) mi_M37 [(0, .ref 48), (1, .int (Int32.ofInt k)), (2, .int (Int32.ofInt a)), (3, .int (Int32.ofInt b))] σ P) (KX : ∀ σ', P σ' → RH X d h0 Q (n + 1) σ') : RH X d h0 Q n σ := by
  intro h S fr
  have hu := ty_H_u S
  refine mi_wp_p (pc' := 12) (st' := [.int (Int32.ofInt n)]) rfl rfl rfl ?_
  refine mi_wp_p (pc' := 13) (st' := [.ref 26, .int (Int32.ofInt n)]) rfl rfl rfl ?_
  refine ty_s_ci rfl rfl rfl rfl rfl rfl (mi_cal_v2 (np := 0) (args := [.ref 26]) (rest := [.int (Int32.ofInt n)]) rfl rfl rfl rfl rfl (Nat.le_of_ble_eq_true rfl) rfl rfl (Nat.le_of_ble_eq_true rfl) (ty_rcS S (List.mem_of_getElem? (i := 16) rfl))) (Nat.le_of_ble_eq_true rfl) S st26_size ?_
  intro x hh σu S f P
  obtain ⟨e1, e2⟩ := P
  rw [e2] at S
  rw [e1]
  clear e1 e2
  replace fr := mi_Fm_tr fr f
  refine mi_s_if2 (t := 103) rfl rfl rfl (by unfold mi_R; omega) (by unfold mi_R; omega) (fun hc_ => absurd (show (mi_sF σ 26 7) ≤ n from hc_) (by omega)) (fun _ => ?_)
  refine mi_wp_p (pc' := 20) (st' := [.ref 43]) rfl rfl rfl ?_
  refine ty_s_gr S rfl rfl rfl (List.mem_of_getElem? (i := 51) rfl) ?_
  refine ty_s_ci rfl rfl rfl rfl rfl rfl (mi_cal_v2 (np := 0) (args := [.ref 2]) (rest := []) rfl rfl rfl rfl rfl (Nat.le_of_ble_eq_true rfl) rfl rfl (Nat.le_of_ble_eq_true rfl) (ty_rcS S (List.mem_of_getElem? (i := 1) rfl))) (Nat.le_of_ble_eq_true rfl) S (fa_stands f0) ?_
  intro x hh σu S f P
  obtain ⟨e1, e2⟩ := P
  rw [e2] at S
  rw [e1]
  clear e1 e2
  replace fr := mi_Fm_tr fr f
  refine mi_s_if1 (t := 103) rfl rfl rfl (by unfold mi_R; omega) (fun hc_ => absurd (show (0 : Int) ≠ 0 from hc_) (by omega)) (fun _ => ?_)
  refine mi_wp_p (pc' := 30) (st' := [.ref 26]) rfl rfl rfl ?_
  refine mi_wp_p (pc' := 31) (st' := [.int (Int32.ofInt n), .ref 26]) rfl rfl rfl ?_
  refine ty_s_ci rfl rfl rfl rfl rfl rfl (mi_cal_v2 (np := 1) (args := [.ref 26, .int (Int32.ofInt n)]) (rest := []) rfl rfl rfl rfl rfl (Nat.le_of_ble_eq_true rfl) rfl rfl (Nat.le_of_ble_eq_true rfl) (ty_rcS S (List.mem_of_getElem? (i := 16) rfl))) (Nat.le_of_ble_eq_true rfl) S (st26_kindOf n0 n1 n2) ?_
  intro x hh σu S f P
  obtain ⟨q1, q2⟩ := P
  rw [q2] at S
  rw [q1, e1]
  clear q1 q2
  replace fr := mi_Fm_tr fr f
  refine mi_wp_p (pc' := 35) (l' := [(3, .int (Int32.ofInt k)), (2, .int (Int32.ofInt n)), (0, .ref 43), (1, .ref 26)]) (st' := []) rfl rfl rfl ?_
  refine mi_wp_p (pc' := 36) (st' := [.int (Int32.ofInt k)]) rfl rfl rfl ?_
  refine mi_s_k (pc' := 38) (e := 19) rfl rfl rfl (by decide +kernel) ?_
  refine mi_s_if2 (t := 64) rfl rfl rfl (by unfold mi_R; omega) (by unfold mi_R; omega) (fun _ => ?_) (fun hc_ => absurd (show k < 19 by omega) hc_)
  refine mi_wp_p (pc' := 65) (st' := [.int (Int32.ofInt k)]) rfl rfl rfl ?_
  refine mi_s_k (pc' := 67) (e := 10) rfl rfl rfl (by decide +kernel) ?_
  refine mi_s_if2 (t := 79) rfl rfl rfl (by unfold mi_R; omega) (by unfold mi_R; omega) (fun _ => ?_) (fun hc_ => absurd (show k < 10 by omega) hc_)
  refine mi_wp_p (pc' := 80) (st' := [.ref 43]) rfl rfl rfl ?_
  refine ty_s_gr S rfl rfl rfl (List.mem_of_getElem? (i := 52) rfl) ?_
  refine mi_wp_p (pc' := 84) (st' := [.int (Int32.ofInt k), .ref 48]) rfl rfl rfl ?_
  refine mi_wp_p (pc' := 85) (st' := [.ref 26, .int (Int32.ofInt k), .ref 48]) rfl rfl rfl ?_
  refine mi_wp_p (pc' := 86) (st' := [.int (Int32.ofInt n), .ref 26, .int (Int32.ofInt k), .ref 48]) rfl rfl rfl ?_
  refine ty_s_ci rfl rfl rfl rfl rfl rfl (mi_cal_v2 (np := 1) (args := [.ref 26, .int (Int32.ofInt n)]) (rest := [.int (Int32.ofInt k), .ref 48]) rfl rfl rfl rfl rfl (Nat.le_of_ble_eq_true rfl) rfl rfl (Nat.le_of_ble_eq_true rfl) (ty_rcS S (List.mem_of_getElem? (i := 16) rfl))) (Nat.le_of_ble_eq_true rfl) S (st26_aOf n0 n1 n2) ?_
  intro x hh σu S f P
  obtain ⟨q1, q2⟩ := P
  rw [q2] at S
  rw [q1, e2]
  clear q1 q2
  replace fr := mi_Fm_tr fr f
  refine mi_wp_p (pc' := 90) (st' := [.ref 26, .int (Int32.ofInt a), .int (Int32.ofInt k), .ref 48]) rfl rfl rfl ?_
  refine mi_wp_p (pc' := 91) (st' := [.int (Int32.ofInt n), .ref 26, .int (Int32.ofInt a), .int (Int32.ofInt k), .ref 48]) rfl rfl rfl ?_
  refine ty_s_ci rfl rfl rfl rfl rfl rfl (mi_cal_v2 (np := 1) (args := [.ref 26, .int (Int32.ofInt n)]) (rest := [.int (Int32.ofInt a), .int (Int32.ofInt k), .ref 48]) rfl rfl rfl rfl rfl (Nat.le_of_ble_eq_true rfl) rfl rfl (Nat.le_of_ble_eq_true rfl) (ty_rcS S (List.mem_of_getElem? (i := 16) rfl))) (Nat.le_of_ble_eq_true rfl) S (st26_bOf n0 n1 n2) ?_
  intro x hh σu S f P
  obtain ⟨q1, q2⟩ := P
  rw [q2] at S
  rw [q1, e3]
  clear q1 q2
  replace fr := mi_Fm_tr fr f
  refine ty_s_cv rfl rfl rfl rfl rfl rfl (mi_cal_v2 (np := 3) (args := [.ref 48, .int (Int32.ofInt k), .int (Int32.ofInt a), .int (Int32.ofInt b)]) (rest := []) rfl rfl rfl rfl rfl (Nat.le_of_ble_eq_true rfl) rfl rfl (Nat.le_of_ble_eq_true rfl) (ty_rcS S (List.mem_of_getElem? (i := 24) rfl))) (Nat.le_of_ble_eq_true rfl) S H ?_
  intro hh σ1 S f P
  replace fr := mi_Fm_tr fr f
  refine mi_s_inc (l' := [(2, .int (Int32.ofInt (n + 1))), (3, .int (Int32.ofInt k)), (0, .ref 43), (1, .ref 26)]) rfl rfl rfl (by decide) rfl ?_
  refine mi_wp_p (pc' := 11) rfl rfl rfl ?_
  refine mi_wp_lw (l := [(2, .int (Int32.ofInt (n + 1))), (0, .ref 43), (1, .ref 26)]) (mi_lw_of (show List.Nodup [2, 0, 1] by decide) ⟨rfl, rfl, rfl, trivial⟩) ?_
  exact KX σ1 P _ S fr
theorem rh_step {X : mi_X} {d : Nat} {h0 : mi_H} {Q : mi_Z → Prop} {n k a b : Int} {σ : mi_Sg} (n0 : 0 ≤ n) (n1 : n < mi_sF σ 26 7) (n2 : mi_sF σ 26 7 ≤ 1024) (f0 : mi_sF σ 2 0 = 0) (e1 : mi_sA σ 27 n = k) (e2 : mi_sA σ 28 n = a) (e3 : mi_sA σ 29 n = b) {P : mi_Sg → Prop} (hk : 10 ≤ k ∧ k < 19) (H : ty_Cv X (d + 11) mi_M23 [(0, .ref 43), (1, .int (Int32.ofInt k)), (2, .int (Int32.ofInt n))] σ P) (KX : ∀ σ', P σ' → RH X d h0 Q (n + 1) σ') : RH X d h0 Q n σ := by
  intro h S fr
  have hu := ty_H_u S
  refine mi_wp_p (pc' := 12) (st' := [.int (Int32.ofInt n)]) rfl rfl rfl ?_
  refine mi_wp_p (pc' := 13) (st' := [.ref 26, .int (Int32.ofInt n)]) rfl rfl rfl ?_
  refine ty_s_ci rfl rfl rfl rfl rfl rfl (mi_cal_v2 (np := 0) (args := [.ref 26]) (rest := [.int (Int32.ofInt n)]) rfl rfl rfl rfl rfl (Nat.le_of_ble_eq_true rfl) rfl rfl (Nat.le_of_ble_eq_true rfl) (ty_rcS S (List.mem_of_getElem? (i := 16) rfl))) (Nat.le_of_ble_eq_true rfl) S st26_size ?_
  intro x hh σu S f P
  obtain ⟨e1, e2⟩ := P
  rw [e2] at S
  rw [e1]
  clear e1 e2
  replace fr := mi_Fm_tr fr f
  refine mi_s_if2 (t := 103) rfl rfl rfl (by unfold mi_R; omega) (by unfold mi_R; omega) (fun hc_ => absurd (show (mi_sF σ 26 7) ≤ n from hc_) (by omega)) (fun _ => ?_)
  refine mi_wp_p (pc' := 20) (st' := [.ref 43]) rfl rfl rfl ?_
  refine ty_s_gr S rfl rfl rfl (List.mem_of_getElem? (i := 51) rfl) ?_
  refine ty_s_ci rfl rfl rfl rfl rfl rfl (mi_cal_v2 (np := 0) (args := [.ref 2]) (rest := []) rfl rfl rfl rfl rfl (Nat.le_of_ble_eq_true rfl) rfl rfl (Nat.le_of_ble_eq_true rfl) (ty_rcS S (List.mem_of_getElem? (i := 1) rfl))) (Nat.le_of_ble_eq_true rfl) S (fa_stands f0) ?_
  intro x hh σu S f P
  obtain ⟨e1, e2⟩ := P
  rw [e2] at S
  rw [e1]
  clear e1 e2
  replace fr := mi_Fm_tr fr f
  refine mi_s_if1 (t := 103) rfl rfl rfl (by unfold mi_R; omega) (fun hc_ => absurd (show (0 : Int) ≠ 0 from hc_) (by omega)) (fun _ => ?_)
  refine mi_wp_p (pc' := 30) (st' := [.ref 26]) rfl rfl rfl ?_
  refine mi_wp_p (pc' := 31) (st' := [.int (Int32.ofInt n), .ref 26]) rfl rfl rfl ?_
  refine ty_s_ci rfl rfl rfl rfl rfl rfl (mi_cal_v2 (np := 1) (args := [.ref 26, .int (Int32.ofInt n)]) (rest := []) rfl rfl rfl rfl rfl (Nat.le_of_ble_eq_true rfl) rfl rfl (Nat.le_of_ble_eq_true rfl) (ty_rcS S (List.mem_of_getElem? (i := 16) rfl))) (Nat.le_of_ble_eq_true rfl) S (st26_kindOf n0 n1 n2) ?_
  intro x hh σu S f P
  obtain ⟨q1, q2⟩ := P
  rw [q2] at S
  rw [q1, e1]
  clear q1 q2
  replace fr := mi_Fm_tr fr f
  refine mi_wp_p (pc' := 35) (l' := [(3, .int (Int32.ofInt k)), (2, .int (Int32.ofInt n)), (0, .ref 43), (1, .ref 26)]) (st' := []) rfl rfl rfl ?_
  refine mi_wp_p (pc' := 36) (st' := [.int (Int32.ofInt k)]) rfl rfl rfl ?_
  refine mi_s_k (pc' := 38) (e := 19) rfl rfl rfl (by decide +kernel) ?_
  refine mi_s_if2 (t := 64) rfl rfl rfl (by unfold mi_R; omega) (by unfold mi_R; omega) (fun _ => ?_) (fun hc_ => absurd (show k < 19 by omega) hc_)
  refine mi_wp_p (pc' := 65) (st' := [.int (Int32.ofInt k)]) rfl rfl rfl ?_
  refine mi_s_k (pc' := 67) (e := 10) rfl rfl rfl (by decide +kernel) ?_
  refine mi_s_if2 (t := 79) rfl rfl rfl (by unfold mi_R; omega) (by unfold mi_R; omega) (fun hc_ => absurd (show k < 10 from hc_) (by omega)) (fun _ => ?_)
  refine mi_wp_p (pc' := 71) (st' := [.ref 43]) rfl rfl rfl ?_
  refine mi_wp_p (pc' := 72) (st' := [.int (Int32.ofInt k), .ref 43]) rfl rfl rfl ?_
  refine mi_wp_p (pc' := 73) (st' := [.int (Int32.ofInt n), .int (Int32.ofInt k), .ref 43]) rfl rfl rfl ?_
  refine ty_s_cv rfl rfl rfl rfl rfl rfl (mi_cal_v2 (np := 2) (args := [.ref 43, .int (Int32.ofInt k), .int (Int32.ofInt n)]) (rest := []) rfl rfl rfl rfl rfl (Nat.le_of_ble_eq_true rfl) rfl rfl (Nat.le_of_ble_eq_true rfl) (ty_rcS S (List.mem_of_getElem? (i := 19) rfl))) (Nat.le_of_ble_eq_true rfl) S H ?_
  intro hh σ1 S f P
  replace fr := mi_Fm_tr fr f
  refine mi_wp_p (pc' := 97) rfl rfl rfl ?_
  refine mi_s_inc (l' := [(2, .int (Int32.ofInt (n + 1))), (3, .int (Int32.ofInt k)), (0, .ref 43), (1, .ref 26)]) rfl rfl rfl (by decide) rfl ?_
  refine mi_wp_p (pc' := 11) rfl rfl rfl ?_
  refine mi_wp_lw (l := [(2, .int (Int32.ofInt (n + 1))), (0, .ref 43), (1, .ref 26)]) (mi_lw_of (show List.Nodup [2, 0, 1] by decide) ⟨rfl, rfl, rfl, trivial⟩) ?_
  exact KX σ1 P _ S fr
theorem rh_expr {X : mi_X} {d : Nat} {h0 : mi_H} {Q : mi_Z → Prop} {n k a b : Int} {σ : mi_Sg} (n0 : 0 ≤ n) (n1 : n < mi_sF σ 26 7) (n2 : mi_sF σ 26 7 ≤ 1024) (f0 : mi_sF σ 2 0 = 0) (e1 : mi_sA σ 27 n = k) (e2 : mi_sA σ 28 n = a) (e3 : mi_sA σ 29 n = b) {P : Int → mi_Sg → Prop} (hk : 19 ≤ k ∧ k < 40) (H : ty_Ci X (d + 11) mi_M24 [(0, .ref 43), (1, .int (Int32.ofInt k)), (2, .int (Int32.ofInt a)), (3, .int (Int32.ofInt b))] σ P) (hP : ∀ x σ', P x σ' → mi_sF σ' 26 7 = mi_sF σ 26 7) (KX : ∀ x σ', P x σ' → RH X d h0 Q (n + 1) (mi_uA σ' 33 n x)) : RH X d h0 Q n σ := by
  intro h S fr
  have hu := ty_H_u S
  refine mi_wp_p (pc' := 12) (st' := [.int (Int32.ofInt n)]) rfl rfl rfl ?_
  refine mi_wp_p (pc' := 13) (st' := [.ref 26, .int (Int32.ofInt n)]) rfl rfl rfl ?_
  refine ty_s_ci rfl rfl rfl rfl rfl rfl (mi_cal_v2 (np := 0) (args := [.ref 26]) (rest := [.int (Int32.ofInt n)]) rfl rfl rfl rfl rfl (Nat.le_of_ble_eq_true rfl) rfl rfl (Nat.le_of_ble_eq_true rfl) (ty_rcS S (List.mem_of_getElem? (i := 16) rfl))) (Nat.le_of_ble_eq_true rfl) S st26_size ?_
  intro x hh σu S f P
  obtain ⟨e1, e2⟩ := P
  rw [e2] at S
  rw [e1]
  clear e1 e2
  replace fr := mi_Fm_tr fr f
  refine mi_s_if2 (t := 103) rfl rfl rfl (by unfold mi_R; omega) (by unfold mi_R; omega) (fun hc_ => absurd (show (mi_sF σ 26 7) ≤ n from hc_) (by omega)) (fun _ => ?_)
  refine mi_wp_p (pc' := 20) (st' := [.ref 43]) rfl rfl rfl ?_
  refine ty_s_gr S rfl rfl rfl (List.mem_of_getElem? (i := 51) rfl) ?_
  refine ty_s_ci rfl rfl rfl rfl rfl rfl (mi_cal_v2 (np := 0) (args := [.ref 2]) (rest := []) rfl rfl rfl rfl rfl (Nat.le_of_ble_eq_true rfl) rfl rfl (Nat.le_of_ble_eq_true rfl) (ty_rcS S (List.mem_of_getElem? (i := 1) rfl))) (Nat.le_of_ble_eq_true rfl) S (fa_stands f0) ?_
  intro x hh σu S f P
  obtain ⟨e1, e2⟩ := P
  rw [e2] at S
  rw [e1]
  clear e1 e2
  replace fr := mi_Fm_tr fr f
  refine mi_s_if1 (t := 103) rfl rfl rfl (by unfold mi_R; omega) (fun hc_ => absurd (show (0 : Int) ≠ 0 from hc_) (by omega)) (fun _ => ?_)
  refine mi_wp_p (pc' := 30) (st' := [.ref 26]) rfl rfl rfl ?_
  refine mi_wp_p (pc' := 31) (st' := [.int (Int32.ofInt n), .ref 26]) rfl rfl rfl ?_
  refine ty_s_ci rfl rfl rfl rfl rfl rfl (mi_cal_v2 (np := 1) (args := [.ref 26, .int (Int32.ofInt n)]) (rest := []) rfl rfl rfl rfl rfl (Nat.le_of_ble_eq_true rfl) rfl rfl (Nat.le_of_ble_eq_true rfl) (ty_rcS S (List.mem_of_getElem? (i := 16) rfl))) (Nat.le_of_ble_eq_true rfl) S (st26_kindOf n0 n1 n2) ?_
  intro x hh σu S f P
  obtain ⟨q1, q2⟩ := P
  rw [q2] at S
  rw [q1, e1]
  clear q1 q2
  replace fr := mi_Fm_tr fr f
  refine mi_wp_p (pc' := 35) (l' := [(3, .int (Int32.ofInt k)), (2, .int (Int32.ofInt n)), (0, .ref 43), (1, .ref 26)]) (st' := []) rfl rfl rfl ?_
  refine mi_wp_p (pc' := 36) (st' := [.int (Int32.ofInt k)]) rfl rfl rfl ?_
  refine mi_s_k (pc' := 38) (e := 19) rfl rfl rfl (by decide +kernel) ?_
  refine mi_s_if2 (t := 64) rfl rfl rfl (by unfold mi_R; omega) (by unfold mi_R; omega) (fun hc_ => absurd (show k < 19 from hc_) (by omega)) (fun _ => ?_)
  refine mi_wp_p (pc' := 42) (st' := [.ref 26]) rfl rfl rfl ?_
  refine mi_wp_p (pc' := 43) (st' := [.int (Int32.ofInt n), .ref 26]) rfl rfl rfl ?_
  refine mi_wp_p (pc' := 44) (st' := [.ref 43, .int (Int32.ofInt n), .ref 26]) rfl rfl rfl ?_
  refine mi_wp_p (pc' := 45) (st' := [.int (Int32.ofInt k), .ref 43, .int (Int32.ofInt n), .ref 26]) rfl rfl rfl ?_
  refine mi_wp_p (pc' := 46) (st' := [.ref 26, .int (Int32.ofInt k), .ref 43, .int (Int32.ofInt n), .ref 26]) rfl rfl rfl ?_
  refine mi_wp_p (pc' := 47) (st' := [.int (Int32.ofInt n), .ref 26, .int (Int32.ofInt k), .ref 43, .int (Int32.ofInt n), .ref 26]) rfl rfl rfl ?_
  refine ty_s_ci rfl rfl rfl rfl rfl rfl (mi_cal_v2 (np := 1) (args := [.ref 26, .int (Int32.ofInt n)]) (rest := [.int (Int32.ofInt k), .ref 43, .int (Int32.ofInt n), .ref 26]) rfl rfl rfl rfl rfl (Nat.le_of_ble_eq_true rfl) rfl rfl (Nat.le_of_ble_eq_true rfl) (ty_rcS S (List.mem_of_getElem? (i := 16) rfl))) (Nat.le_of_ble_eq_true rfl) S (st26_aOf n0 n1 n2) ?_
  intro x hh σu S f P
  obtain ⟨q1, q2⟩ := P
  rw [q2] at S
  rw [q1, e2]
  clear q1 q2
  replace fr := mi_Fm_tr fr f
  refine mi_wp_p (pc' := 51) (st' := [.ref 26, .int (Int32.ofInt a), .int (Int32.ofInt k), .ref 43, .int (Int32.ofInt n), .ref 26]) rfl rfl rfl ?_
  refine mi_wp_p (pc' := 52) (st' := [.int (Int32.ofInt n), .ref 26, .int (Int32.ofInt a), .int (Int32.ofInt k), .ref 43, .int (Int32.ofInt n), .ref 26]) rfl rfl rfl ?_
  refine ty_s_ci rfl rfl rfl rfl rfl rfl (mi_cal_v2 (np := 1) (args := [.ref 26, .int (Int32.ofInt n)]) (rest := [.int (Int32.ofInt a), .int (Int32.ofInt k), .ref 43, .int (Int32.ofInt n), .ref 26]) rfl rfl rfl rfl rfl (Nat.le_of_ble_eq_true rfl) rfl rfl (Nat.le_of_ble_eq_true rfl) (ty_rcS S (List.mem_of_getElem? (i := 16) rfl))) (Nat.le_of_ble_eq_true rfl) S (st26_bOf n0 n1 n2) ?_
  intro x hh σu S f P
  obtain ⟨q1, q2⟩ := P
  rw [q2] at S
  rw [q1, e3]
  clear q1 q2
  replace fr := mi_Fm_tr fr f
  refine ty_s_ci rfl rfl rfl rfl rfl rfl (mi_cal_v2 (np := 3) (args := [.ref 43, .int (Int32.ofInt k), .int (Int32.ofInt a), .int (Int32.ofInt b)]) (rest := [.int (Int32.ofInt n), .ref 26]) rfl rfl rfl rfl rfl (Nat.le_of_ble_eq_true rfl) rfl rfl (Nat.le_of_ble_eq_true rfl) (ty_rcS S (List.mem_of_getElem? (i := 19) rfl))) (Nat.le_of_ble_eq_true rfl) S H ?_
  intro x hh σ1 S f P
  have hs := hP _ _ P
  replace fr := mi_Fm_tr fr f
  refine ty_s_cv rfl rfl rfl rfl rfl rfl (mi_cal_v2 (np := 2) (args := [.ref 26, .int (Int32.ofInt n), .int (Int32.ofInt x)]) (rest := []) rfl rfl rfl rfl rfl (Nat.le_of_ble_eq_true rfl) rfl rfl (Nat.le_of_ble_eq_true rfl) (ty_rcS S (List.mem_of_getElem? (i := 16) rfl))) (Nat.le_of_ble_eq_true rfl) S (st26_setType n0 (by rw [hs]; exact n1) (by rw [hs]; exact n2)) ?_
  intro hh σ2 S f P2
  rw [P2] at S
  replace fr := mi_Fm_tr fr f
  refine mi_wp_p (pc' := 97) rfl rfl rfl ?_
  refine mi_s_inc (l' := [(2, .int (Int32.ofInt (n + 1))), (3, .int (Int32.ofInt k)), (0, .ref 43), (1, .ref 26)]) rfl rfl rfl (by decide) rfl ?_
  refine mi_wp_p (pc' := 11) rfl rfl rfl ?_
  refine mi_wp_lw (l := [(2, .int (Int32.ofInt (n + 1))), (0, .ref 43), (1, .ref 26)]) (mi_lw_of (show List.Nodup [2, 0, 1] by decide) ⟨rfl, rfl, rfl, trivial⟩) ?_
  exact KX x σ1 P _ S fr
