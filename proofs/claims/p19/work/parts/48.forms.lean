/-! ===== Forms: values, names, pairs, arrows (printed by wip/gen/p_forms.py) ===== -/
/-- what the language itself makes known stands in Known -/
def kb (σ : mi_Sg) : Prop := mi_sF σ 17 12 = 3 ∧ mi_sE σ 18 0 = 6909556 ∧ mi_sE σ 18 1 = 1651470188 ∧ mi_sE σ 18 2 = 1818850164 ∧ mi_sA σ 19 0 = 0 ∧ mi_sA σ 19 1 = 0 ∧ mi_sA σ 19 2 = 1
theorem fo_putValue {X : mi_X} {d : Nat} {σ : mi_Sg} {t : Int} (h0 : 0 ≤ mi_sF σ 48 7) (h1 : mi_sF σ 48 7 < 300) : ty_Cv X d mi_M36 [(0, .ref 48), (1, .int (Int32.ofInt t))] σ (fun σ' => σ' = mi_uF (mi_uA σ 51 (mi_sF σ 48 7) t) 48 7 (mi_sF σ 48 7 + 1)) := by
  intro h S
  have fr := mi_Fm_rf h
  refine mi_wp_p (pc' := 1) (st' := [.ref 48]) rfl rfl rfl ?_
  refine ty_s_gf (x := mi_sF σ 48 7) S rfl rfl rfl (List.mem_of_getElem? (i := 24) rfl) rfl ?_
  refine mi_wp_p (pc' := 5) (st' := [.ref 48, .int (Int32.ofInt (mi_sF σ 48 7))]) rfl rfl rfl ?_
  refine ty_s_gr S rfl rfl rfl (List.mem_of_getElem? (i := 63) rfl) ?_
  refine ty_s_lna S rfl rfl (List.mem_of_getElem? (i := 34) rfl) (by decide) ?_
  refine mi_s_if2 (t := 32) rfl rfl rfl (by unfold mi_R; omega) (by unfold mi_R; omega) (fun hc_ => absurd (show 300 ≤ (mi_sF σ 48 7) from hc_) (by omega)) (fun _ => ?_)
  refine mi_wp_p (pc' := 13) (st' := [.ref 48]) rfl rfl rfl ?_
  refine ty_s_gr S rfl rfl rfl (List.mem_of_getElem? (i := 63) rfl) ?_
  refine mi_wp_p (pc' := 17) (st' := [.ref 48, .ref 51]) rfl rfl rfl ?_
  refine ty_s_gf (x := mi_sF σ 48 7) S rfl rfl rfl (List.mem_of_getElem? (i := 24) rfl) rfl ?_
  refine mi_wp_p (pc' := 21) (st' := [.int (Int32.ofInt t), .int (Int32.ofInt (mi_sF σ 48 7)), .ref 51]) rfl rfl rfl ?_
  refine ty_s_ast S rfl rfl (List.mem_of_getElem? (i := 34) rfl) (by decide) (by decide) (by omega) (by omega) ?_
  intro h1 S f
  replace fr := mi_Fm_tr fr f
  refine mi_wp_p (pc' := 23) (st' := [.ref 48]) rfl rfl rfl ?_
  refine mi_wp_p (pc' := 24) (st' := [.ref 48, .ref 48]) rfl rfl rfl ?_
  refine ty_s_gf (x := mi_sF σ 48 7) S rfl rfl rfl (List.mem_of_getElem? (i := 24) rfl) rfl ?_
  refine mi_wp_p (pc' := 28) (st' := [.int (Int32.ofInt 1), .int (Int32.ofInt (mi_sF σ 48 7)), .ref 48]) rfl rfl rfl ?_
  refine mi_s_add rfl rfl ?_
  refine ty_s_pf S rfl rfl rfl (List.mem_of_getElem? (i := 24) rfl) (by decide) mi_fit_int (Or.inl rfl) ?_
  intro h2 S f
  replace fr := mi_Fm_tr fr f
  exact ty_s_ret S fr rfl rfl rfl rfl ⟨rfl, rfl⟩
theorem fo_takeValue {X : mi_X} {d : Nat} {σ : mi_Sg} (h0 : 0 < mi_sF σ 48 7) (h1 : mi_sF σ 48 7 ≤ 300) : ty_Ci X d mi_M38 [(0, .ref 48)] σ (fun x σ' => x = mi_sA σ 51 (mi_sF σ 48 7 - 1) ∧ σ' = mi_uF σ 48 7 (mi_sF σ 48 7 - 1)) := by
  intro h S
  have fr := mi_Fm_rf h
  refine mi_wp_p (pc' := 1) (st' := [.ref 48]) rfl rfl rfl ?_
  refine ty_s_gf (x := mi_sF σ 48 7) S rfl rfl rfl (List.mem_of_getElem? (i := 24) rfl) rfl ?_
  refine mi_s_if1 (t := 9) rfl rfl rfl (by unfold mi_R; omega) (fun _ => ?_) (fun hc_ => absurd (show 0 < (mi_sF σ 48 7) by omega) hc_)
  refine mi_wp_p (pc' := 10) (st' := [.ref 48]) rfl rfl rfl ?_
  refine mi_wp_p (pc' := 11) (st' := [.ref 48, .ref 48]) rfl rfl rfl ?_
  refine ty_s_gf (x := mi_sF σ 48 7) S rfl rfl rfl (List.mem_of_getElem? (i := 24) rfl) rfl ?_
  refine mi_wp_p (pc' := 15) (st' := [.int (Int32.ofInt 1), .int (Int32.ofInt (mi_sF σ 48 7)), .ref 48]) rfl rfl rfl ?_
  refine mi_s_sub rfl rfl ?_
  refine ty_s_pf S rfl rfl rfl (List.mem_of_getElem? (i := 24) rfl) (by decide) mi_fit_int (Or.inl rfl) ?_
  intro h3 S f
  replace fr := mi_Fm_tr fr f
  refine mi_wp_p (pc' := 20) (st' := [.ref 48]) rfl rfl rfl ?_
  refine ty_s_gr S rfl rfl rfl (List.mem_of_getElem? (i := 63) rfl) ?_
  refine mi_wp_p (pc' := 24) (st' := [.ref 48, .ref 51]) rfl rfl rfl ?_
  refine ty_s_gf (x := (mi_sF σ 48 7) - 1) S rfl rfl rfl (List.mem_of_getElem? (i := 24) rfl) rfl ?_
  refine ty_s_ald (x := mi_sA σ 51 ((mi_sF σ 48 7) - 1)) S rfl rfl (List.mem_of_getElem? (i := 34) rfl) (by decide) (by omega) (by omega) rfl ?_
  exact ty_s_ret S fr rfl rfl rfl (mi_ret_i rfl) ⟨_, rfl, ⟨rfl, rfl⟩⟩
theorem fo_tellIf0 {X : mi_X} {d : Nat} {σ : mi_Sg} {a b : Int}  : ty_Cv X d mi_M39 [(0, .ref 48), (1, .int (Int32.ofInt 0)), (2, .int (Int32.ofInt a)), (3, .int (Int32.ofInt b))] σ (fun σ' => σ' = σ) := by
  intro h S
  have fr := mi_Fm_rf h
  refine mi_wp_p (pc' := 1) (st' := [.int (Int32.ofInt 0)]) rfl rfl rfl ?_
  refine mi_s_if1 (t := 20) rfl rfl rfl (by unfold mi_R; omega) (fun _ => ?_) (fun hc_ => absurd (show (0 : Int) = 0 by omega) hc_)
  exact ty_s_ret S fr rfl rfl rfl rfl ⟨rfl, rfl⟩
theorem fo_typeNamed {X : mi_X} {σ : mi_Sg} {d : Nat} {tk : Int} (t0 : 0 ≤ tk) (t1 : tk < mi_sF σ 3 7) (t2 : mi_sF σ 3 7 ≤ 301) (k0 : mi_sF σ 17 12 = 3) : ty_Ci X (d + 2) mi_M40 [(0, .ref 48), (1, .int (Int32.ofInt tk))] σ (fun x σ' => pl_P σ 18 3 (mi_sE σ 8 tk) x ∧ σ' = σ) := by
  intro h S
  have fr := mi_Fm_rf h
  refine mi_wp_p (pc' := 1) (st' := [.ref 48]) rfl rfl rfl ?_
  refine ty_s_gr S rfl rfl rfl (List.mem_of_getElem? (i := 59) rfl) ?_
  refine mi_wp_p (pc' := 5) (st' := [.ref 48, .ref 17]) rfl rfl rfl ?_
  refine ty_s_gr S rfl rfl rfl (List.mem_of_getElem? (i := 57) rfl) ?_
  refine mi_wp_p (pc' := 9) (st' := [.int (Int32.ofInt tk), .ref 3, .ref 17]) rfl rfl rfl ?_
  refine ty_s_cj rfl rfl rfl rfl rfl rfl (mi_cal_v2 (np := 1) (args := [.ref 3, .int (Int32.ofInt tk)]) (rest := [.ref 17]) rfl rfl rfl rfl rfl (Nat.le_of_ble_eq_true rfl) rfl rfl (Nat.le_of_ble_eq_true rfl) (ty_rcS S (List.mem_of_getElem? (i := 3) rfl))) (Nat.le_of_ble_eq_true rfl) S (to_keyOf t0 t1 t2) ?_
  intro x hh σu S f P
  obtain ⟨e1, e2⟩ := P
  rw [e2] at S
  rw [e1]
  clear e1 e2
  replace fr := mi_Fm_tr fr f
  refine ty_s_ci rfl rfl rfl rfl rfl rfl (mi_cal_v2 (np := 1) (args := [.ref 17, .long (mi_sE σ 8 tk)]) (rest := []) rfl rfl rfl rfl rfl (Nat.le_of_ble_eq_true rfl) rfl rfl (Nat.le_of_ble_eq_true rfl) (ty_rcS S (List.mem_of_getElem? (i := 10) rfl))) (Nat.le_of_ble_eq_true rfl) S (kn_typeNumber (by omega) (by omega)) ?_
  intro x hh σu S f P
  obtain ⟨P, e2⟩ := P
  rw [e2] at S
  rw [k0] at P
  replace fr := mi_Fm_tr fr f
  exact ty_s_ret S fr rfl rfl rfl (mi_ret_i rfl) ⟨_, rfl, P, rfl⟩
theorem kb_int {σ : mi_Sg} (K : kb σ) {key : Int64} {x : Int} (P : pl_P σ 18 3 key x) (h : key = 6909556) : x = 0 := pl_at P (by omega) (by omega) (by rw [K.2.1, h]) (fun j a b => by omega)
theorem kb_bool {σ : mi_Sg} (K : kb σ) {key : Int64} {x : Int} (P : pl_P σ 18 3 key x) (h : key = 1651470188) : x = 1 := pl_at P (by omega) (by omega) (by rw [K.2.2.1, h]) (fun j a b => by
  obtain rfl : j = 0 := by omega
  rw [K.2.1, h]
  decide)
theorem kb_list {σ : mi_Sg} (K : kb σ) {key : Int64} {x : Int} (P : pl_P σ 18 3 key x) (h : key = 1818850164) : x = 2 := pl_at P (by omega) (by omega) (by rw [K.2.2.2.1, h]) (fun j a b => by
  obtain rfl | rfl : j = 0 ∨ j = 1 := by omega
  · rw [K.2.1, h]
    decide
  · rw [K.2.2.1, h]
    decide)
theorem fo_useInt {X : mi_X} {σ : mi_Sg} {d : Nat} {tk : Int} (t0 : 0 ≤ tk) (t1 : tk < mi_sF σ 3 7) (t2 : mi_sF σ 3 7 ≤ 301) (K : kb σ) (hk : mi_sE σ 8 tk = 6909556) (h0 : 0 ≤ mi_sF σ 48 7) (h1 : mi_sF σ 48 7 < 300) : ty_Cv X (d + 3) mi_M42 [(0, .ref 48), (1, .int (Int32.ofInt tk)), (2, .int (Int32.ofInt 0))] σ (fun σ' => σ' = mi_uF (mi_uA σ 51 (mi_sF σ 48 7) 1) 48 7 (mi_sF σ 48 7 + 1)) := by
  intro h S
  have fr := mi_Fm_rf h
  have m19 : mi_sA σ 19 0 = 0 := K.2.2.2.2.1
  refine mi_wp_p (pc' := 1) (st' := [.ref 48]) rfl rfl rfl ?_
  refine mi_wp_p (pc' := 2) (st' := [.int (Int32.ofInt tk), .ref 48]) rfl rfl rfl ?_
  refine ty_s_ci rfl rfl rfl rfl rfl rfl (mi_cal_v2 (np := 1) (args := [.ref 48, .int (Int32.ofInt tk)]) (rest := []) rfl rfl rfl rfl rfl (Nat.le_of_ble_eq_true rfl) rfl rfl (Nat.le_of_ble_eq_true rfl) (ty_rcS S (List.mem_of_getElem? (i := 24) rfl))) (Nat.le_of_ble_eq_true rfl) S (fo_typeNamed t0 t1 t2 K.1) ?_
  intro x hh σu S f P
  obtain ⟨P, e2⟩ := P
  rw [e2] at S
  rw [kb_int K P hk]
  clear P e2
  replace fr := mi_Fm_tr fr f
  refine mi_wp_p (pc' := 6) (l' := [(3, .int (Int32.ofInt 0)), (0, .ref 48), (1, .int (Int32.ofInt tk)), (2, .int (Int32.ofInt 0))]) (st' := []) rfl rfl rfl ?_
  refine mi_wp_p (pc' := 7) (st' := [.int (Int32.ofInt 0)]) rfl rfl rfl ?_
  refine mi_wp_p (pc' := 8) (st' := [.ref 48, .int (Int32.ofInt 0)]) rfl rfl rfl ?_
  refine ty_s_gr S rfl rfl rfl (List.mem_of_getElem? (i := 59) rfl) ?_
  refine mi_wp_p (pc' := 12) (st' := [.int (Int32.ofInt 0), .ref 17, .int (Int32.ofInt 0)]) rfl rfl rfl ?_
  refine ty_s_ci rfl rfl rfl rfl rfl rfl (mi_cal_v2 (np := 1) (args := [.ref 17, .int (Int32.ofInt 0)]) (rest := [.int (Int32.ofInt 0)]) rfl rfl rfl rfl rfl (Nat.le_of_ble_eq_true rfl) rfl rfl (Nat.le_of_ble_eq_true rfl) (ty_rcS S (List.mem_of_getElem? (i := 10) rfl))) (Nat.le_of_ble_eq_true rfl) S (kn_marksOfType (by omega) (by rw [K.1]; omega) (by rw [K.1]; omega)) ?_
  intro x hh σu S f P
  obtain ⟨e1, e2⟩ := P
  rw [e2] at S
  rw [e1]
  clear e1 e2
  replace fr := mi_Fm_tr fr f
  refine mi_s_if2 (t := 36) rfl rfl rfl (by unfold mi_R; omega) (by unfold mi_R; omega) (fun _ => ?_) (fun hc_ => absurd (show (0 : Int) = (mi_sA σ 19 0) by omega) hc_)
  refine mi_wp_p (pc' := 37) (st' := [.int (Int32.ofInt 0)]) rfl rfl rfl ?_
  refine mi_wp_p (pc' := 38) (st' := [.int (Int32.ofInt 2), .int (Int32.ofInt 0)]) rfl rfl rfl ?_
  refine mi_s_if2 (t := 55) rfl rfl rfl (by unfold mi_R; omega) (by unfold mi_R; omega) (fun hc_ => absurd (show 2 ≤ (0 : Int) from hc_) (by omega)) (fun _ => ?_)
  refine mi_wp_p (pc' := 42) (st' := [.ref 48]) rfl rfl rfl ?_
  refine mi_wp_p (pc' := 43) (st' := [.int (Int32.ofInt 0), .ref 48]) rfl rfl rfl ?_
  refine mi_s_if1 (t := 50) rfl rfl rfl (by unfold mi_R; omega) (fun hc_ => absurd (show (0 : Int) ≠ 0 from hc_) (by omega)) (fun _ => ?_)
  refine mi_wp_p (pc' := 47) (st' := [.int (Int32.ofInt 1), .ref 48]) rfl rfl rfl ?_
  refine mi_wp_p (pc' := 51) rfl rfl rfl ?_
  refine ty_s_cv rfl rfl rfl rfl rfl rfl (mi_cal_v2 (np := 1) (args := [.ref 48, .int (Int32.ofInt 1)]) (rest := []) rfl rfl rfl rfl rfl (Nat.le_of_ble_eq_true rfl) rfl rfl (Nat.le_of_ble_eq_true rfl) (ty_rcS S (List.mem_of_getElem? (i := 24) rfl))) (Nat.le_of_ble_eq_true rfl) S (fo_putValue h0 h1) ?_
  intro hh σu S f P
  subst P
  replace fr := mi_Fm_tr fr f
  exact ty_s_ret S fr rfl rfl rfl rfl ⟨rfl, rfl⟩
theorem fo_useBool {X : mi_X} {σ : mi_Sg} {d : Nat} {tk : Int} (t0 : 0 ≤ tk) (t1 : tk < mi_sF σ 3 7) (t2 : mi_sF σ 3 7 ≤ 301) (K : kb σ) (hk : mi_sE σ 8 tk = 1651470188) (h0 : 0 ≤ mi_sF σ 48 7) (h1 : mi_sF σ 48 7 < 300) : ty_Cv X (d + 3) mi_M42 [(0, .ref 48), (1, .int (Int32.ofInt tk)), (2, .int (Int32.ofInt 0))] σ (fun σ' => σ' = mi_uF (mi_uA σ 51 (mi_sF σ 48 7) 2) 48 7 (mi_sF σ 48 7 + 1)) := by
  intro h S
  have fr := mi_Fm_rf h
  have m19 : mi_sA σ 19 1 = 0 := K.2.2.2.2.2.1
  refine mi_wp_p (pc' := 1) (st' := [.ref 48]) rfl rfl rfl ?_
  refine mi_wp_p (pc' := 2) (st' := [.int (Int32.ofInt tk), .ref 48]) rfl rfl rfl ?_
  refine ty_s_ci rfl rfl rfl rfl rfl rfl (mi_cal_v2 (np := 1) (args := [.ref 48, .int (Int32.ofInt tk)]) (rest := []) rfl rfl rfl rfl rfl (Nat.le_of_ble_eq_true rfl) rfl rfl (Nat.le_of_ble_eq_true rfl) (ty_rcS S (List.mem_of_getElem? (i := 24) rfl))) (Nat.le_of_ble_eq_true rfl) S (fo_typeNamed t0 t1 t2 K.1) ?_
  intro x hh σu S f P
  obtain ⟨P, e2⟩ := P
  rw [e2] at S
  rw [kb_bool K P hk]
  clear P e2
  replace fr := mi_Fm_tr fr f
  refine mi_wp_p (pc' := 6) (l' := [(3, .int (Int32.ofInt 1)), (0, .ref 48), (1, .int (Int32.ofInt tk)), (2, .int (Int32.ofInt 0))]) (st' := []) rfl rfl rfl ?_
  refine mi_wp_p (pc' := 7) (st' := [.int (Int32.ofInt 0)]) rfl rfl rfl ?_
  refine mi_wp_p (pc' := 8) (st' := [.ref 48, .int (Int32.ofInt 0)]) rfl rfl rfl ?_
  refine ty_s_gr S rfl rfl rfl (List.mem_of_getElem? (i := 59) rfl) ?_
  refine mi_wp_p (pc' := 12) (st' := [.int (Int32.ofInt 1), .ref 17, .int (Int32.ofInt 0)]) rfl rfl rfl ?_
  refine ty_s_ci rfl rfl rfl rfl rfl rfl (mi_cal_v2 (np := 1) (args := [.ref 17, .int (Int32.ofInt 1)]) (rest := [.int (Int32.ofInt 0)]) rfl rfl rfl rfl rfl (Nat.le_of_ble_eq_true rfl) rfl rfl (Nat.le_of_ble_eq_true rfl) (ty_rcS S (List.mem_of_getElem? (i := 10) rfl))) (Nat.le_of_ble_eq_true rfl) S (kn_marksOfType (by omega) (by rw [K.1]; omega) (by rw [K.1]; omega)) ?_
  intro x hh σu S f P
  obtain ⟨e1, e2⟩ := P
  rw [e2] at S
  rw [e1]
  clear e1 e2
  replace fr := mi_Fm_tr fr f
  refine mi_s_if2 (t := 36) rfl rfl rfl (by unfold mi_R; omega) (by unfold mi_R; omega) (fun _ => ?_) (fun hc_ => absurd (show (0 : Int) = (mi_sA σ 19 1) by omega) hc_)
  refine mi_wp_p (pc' := 37) (st' := [.int (Int32.ofInt 1)]) rfl rfl rfl ?_
  refine mi_wp_p (pc' := 38) (st' := [.int (Int32.ofInt 2), .int (Int32.ofInt 1)]) rfl rfl rfl ?_
  refine mi_s_if2 (t := 55) rfl rfl rfl (by unfold mi_R; omega) (by unfold mi_R; omega) (fun hc_ => absurd (show 2 ≤ (1 : Int) from hc_) (by omega)) (fun _ => ?_)
  refine mi_wp_p (pc' := 42) (st' := [.ref 48]) rfl rfl rfl ?_
  refine mi_wp_p (pc' := 43) (st' := [.int (Int32.ofInt 1), .ref 48]) rfl rfl rfl ?_
  refine mi_s_if1 (t := 50) rfl rfl rfl (by unfold mi_R; omega) (fun _ => ?_) (fun hc_ => absurd (show (1 : Int) ≠ 0 by omega) hc_)
  refine mi_wp_p (pc' := 51) (st' := [.int (Int32.ofInt 2), .ref 48]) rfl rfl rfl ?_
  refine ty_s_cv rfl rfl rfl rfl rfl rfl (mi_cal_v2 (np := 1) (args := [.ref 48, .int (Int32.ofInt 2)]) (rest := []) rfl rfl rfl rfl rfl (Nat.le_of_ble_eq_true rfl) rfl rfl (Nat.le_of_ble_eq_true rfl) (ty_rcS S (List.mem_of_getElem? (i := 24) rfl))) (Nat.le_of_ble_eq_true rfl) S (fo_putValue h0 h1) ?_
  intro hh σu S f P
  subst P
  replace fr := mi_Fm_tr fr f
  exact ty_s_ret S fr rfl rfl rfl rfl ⟨rfl, rfl⟩
theorem fo_useList {X : mi_X} {σ : mi_Sg} {d : Nat} {tk : Int} (t0 : 0 ≤ tk) (t1 : tk < mi_sF σ 3 7) (t2 : mi_sF σ 3 7 ≤ 301) (K : kb σ) (hk : mi_sE σ 8 tk = 1818850164) (h0 : 0 < mi_sF σ 48 7) (h1 : mi_sF σ 48 7 ≤ 300) (hu : mi_sF σ 9 8 < 512) : ty_Cv X (d + 3) mi_M42 [(0, .ref 48), (1, .int (Int32.ofInt tk)), (2, .int (Int32.ofInt 1))] σ (fun σ' => σ' = mi_uF (mi_uA (ty_mk (mi_uF σ 48 7 (mi_sF σ 48 7 - 1)) 9 (mi_sA σ 51 (mi_sF σ 48 7 - 1)) 0 0) 51 (mi_sF σ 48 7 - 1) (mi_sF σ 9 8)) 48 7 (mi_sF σ 48 7 - 1 + 1)) := by
  intro h S
  have fr := mi_Fm_rf h
  have m19 : mi_sA σ 19 2 = 1 := K.2.2.2.2.2.2
  refine mi_wp_p (pc' := 1) (st' := [.ref 48]) rfl rfl rfl ?_
  refine mi_wp_p (pc' := 2) (st' := [.int (Int32.ofInt tk), .ref 48]) rfl rfl rfl ?_
  refine ty_s_ci rfl rfl rfl rfl rfl rfl (mi_cal_v2 (np := 1) (args := [.ref 48, .int (Int32.ofInt tk)]) (rest := []) rfl rfl rfl rfl rfl (Nat.le_of_ble_eq_true rfl) rfl rfl (Nat.le_of_ble_eq_true rfl) (ty_rcS S (List.mem_of_getElem? (i := 24) rfl))) (Nat.le_of_ble_eq_true rfl) S (fo_typeNamed t0 t1 t2 K.1) ?_
  intro x hh σu S f P
  obtain ⟨P, e2⟩ := P
  rw [e2] at S
  rw [kb_list K P hk]
  clear P e2
  replace fr := mi_Fm_tr fr f
  refine mi_wp_p (pc' := 6) (l' := [(3, .int (Int32.ofInt 2)), (0, .ref 48), (1, .int (Int32.ofInt tk)), (2, .int (Int32.ofInt 1))]) (st' := []) rfl rfl rfl ?_
  refine mi_wp_p (pc' := 7) (st' := [.int (Int32.ofInt 1)]) rfl rfl rfl ?_
  refine mi_wp_p (pc' := 8) (st' := [.ref 48, .int (Int32.ofInt 1)]) rfl rfl rfl ?_
  refine ty_s_gr S rfl rfl rfl (List.mem_of_getElem? (i := 59) rfl) ?_
  refine mi_wp_p (pc' := 12) (st' := [.int (Int32.ofInt 2), .ref 17, .int (Int32.ofInt 1)]) rfl rfl rfl ?_
  refine ty_s_ci rfl rfl rfl rfl rfl rfl (mi_cal_v2 (np := 1) (args := [.ref 17, .int (Int32.ofInt 2)]) (rest := [.int (Int32.ofInt 1)]) rfl rfl rfl rfl rfl (Nat.le_of_ble_eq_true rfl) rfl rfl (Nat.le_of_ble_eq_true rfl) (ty_rcS S (List.mem_of_getElem? (i := 10) rfl))) (Nat.le_of_ble_eq_true rfl) S (kn_marksOfType (by omega) (by rw [K.1]; omega) (by rw [K.1]; omega)) ?_
  intro x hh σu S f P
  obtain ⟨e1, e2⟩ := P
  rw [e2] at S
  rw [e1]
  clear e1 e2
  replace fr := mi_Fm_tr fr f
  refine mi_s_if2 (t := 36) rfl rfl rfl (by unfold mi_R; omega) (by unfold mi_R; omega) (fun _ => ?_) (fun hc_ => absurd (show (1 : Int) = (mi_sA σ 19 2) by omega) hc_)
  refine mi_wp_p (pc' := 37) (st' := [.int (Int32.ofInt 2)]) rfl rfl rfl ?_
  refine mi_wp_p (pc' := 38) (st' := [.int (Int32.ofInt 2), .int (Int32.ofInt 2)]) rfl rfl rfl ?_
  refine mi_s_if2 (t := 55) rfl rfl rfl (by unfold mi_R; omega) (by unfold mi_R; omega) (fun _ => ?_) (fun hc_ => absurd (show 2 ≤ (2 : Int) by omega) hc_)
  refine mi_wp_p (pc' := 56) (st' := [.int (Int32.ofInt 1)]) rfl rfl rfl ?_
  refine mi_wp_p (pc' := 57) (st' := [.int (Int32.ofInt 2), .int (Int32.ofInt 1)]) rfl rfl rfl ?_
  refine mi_s_if2 (t := 67) rfl rfl rfl (by unfold mi_R; omega) (by unfold mi_R; omega) (fun _ => ?_) (fun hc_ => absurd (show (1 : Int) ≤ 2 by omega) hc_)
  refine mi_wp_p (pc' := 68) (st' := [.int (Int32.ofInt 0)]) rfl rfl rfl ?_
  refine mi_wp_p (pc' := 70) (l' := [(4, .int (Int32.ofInt 0)), (3, .int (Int32.ofInt 2)), (0, .ref 48), (1, .int (Int32.ofInt tk)), (2, .int (Int32.ofInt 1))]) (st' := []) rfl rfl rfl ?_
  refine mi_wp_p (pc' := 71) (st' := [.int (Int32.ofInt 1)]) rfl rfl rfl ?_
  refine mi_wp_p (pc' := 72) (st' := [.int (Int32.ofInt 1), .int (Int32.ofInt 1)]) rfl rfl rfl ?_
  refine mi_s_if2 (t := 82) rfl rfl rfl (by unfold mi_R; omega) (by unfold mi_R; omega) (fun _ => ?_) (fun hc_ => absurd (show (1 : Int) ≤ 1 by omega) hc_)
  refine mi_wp_p (pc' := 83) (st' := [.int (Int32.ofInt 0)]) rfl rfl rfl ?_
  refine mi_wp_p (pc' := 85) (l' := [(5, .int (Int32.ofInt 0)), (4, .int (Int32.ofInt 0)), (3, .int (Int32.ofInt 2)), (0, .ref 48), (1, .int (Int32.ofInt tk)), (2, .int (Int32.ofInt 1))]) (st' := []) rfl rfl rfl ?_
  refine mi_wp_p (pc' := 86) (st' := [.int (Int32.ofInt 1)]) rfl rfl rfl ?_
  refine mi_s_if1 (t := 96) rfl rfl rfl (by unfold mi_R; omega) (fun hc_ => absurd (show (1 : Int) ≤ 0 from hc_) (by omega)) (fun _ => ?_)
  refine mi_wp_p (pc' := 90) (st' := [.ref 48]) rfl rfl rfl ?_
  refine ty_s_ci rfl rfl rfl rfl rfl rfl (mi_cal_v2 (np := 0) (args := [.ref 48]) (rest := []) rfl rfl rfl rfl rfl (Nat.le_of_ble_eq_true rfl) rfl rfl (Nat.le_of_ble_eq_true rfl) (ty_rcS S (List.mem_of_getElem? (i := 24) rfl))) (Nat.le_of_ble_eq_true rfl) S (fo_takeValue (by omega) (by omega)) ?_
  intro x hh σu S f P
  obtain ⟨e1, e2⟩ := P
  subst e2
  rw [e1]
  clear e1
  replace fr := mi_Fm_tr fr f
  refine mi_wp_p (pc' := 97) rfl rfl rfl ?_
  refine mi_wp_p (pc' := 99) (l' := [(6, .int (Int32.ofInt (mi_sA σ 51 (mi_sF σ 48 7 - 1)))), (5, .int (Int32.ofInt 0)), (4, .int (Int32.ofInt 0)), (3, .int (Int32.ofInt 2)), (0, .ref 48), (1, .int (Int32.ofInt tk)), (2, .int (Int32.ofInt 1))]) (st' := []) rfl rfl rfl ?_
  refine mi_wp_p (pc' := 100) (st' := [.ref 48]) rfl rfl rfl ?_
  refine mi_wp_p (pc' := 101) (st' := [.ref 48, .ref 48]) rfl rfl rfl ?_
  refine ty_s_gr S rfl rfl rfl (List.mem_of_getElem? (i := 58) rfl) ?_
  refine mi_s_k (pc' := 106) (e := 7) rfl rfl rfl (by decide +kernel) ?_
  refine mi_wp_p (pc' := 107) (st' := [.int (Int32.ofInt 2), .int (Int32.ofInt 7), .ref 9, .ref 48]) rfl rfl rfl ?_
  refine mi_s_add rfl rfl ?_
  refine mi_wp_p (pc' := 110) (st' := [.int (Int32.ofInt (mi_sA σ 51 (mi_sF σ 48 7 - 1))), .int (Int32.ofInt (7 + 2)), .ref 9, .ref 48]) rfl rfl rfl ?_
  refine mi_wp_p (pc' := 112) (st' := [.int (Int32.ofInt 0), .int (Int32.ofInt (mi_sA σ 51 (mi_sF σ 48 7 - 1))), .int (Int32.ofInt (7 + 2)), .ref 9, .ref 48]) rfl rfl rfl ?_
  refine mi_wp_p (pc' := 114) (st' := [.int (Int32.ofInt 0), .int (Int32.ofInt 0), .int (Int32.ofInt (mi_sA σ 51 (mi_sF σ 48 7 - 1))), .int (Int32.ofInt (7 + 2)), .ref 9, .ref 48]) rfl rfl rfl ?_
  refine ty_s_ci rfl rfl rfl rfl rfl rfl (mi_cal_v2 (np := 4) (args := [.ref 9, .int (Int32.ofInt (7 + 2)), .int (Int32.ofInt (mi_sA σ 51 (mi_sF σ 48 7 - 1))), .int (Int32.ofInt 0), .int (Int32.ofInt 0)]) (rest := [.ref 48]) rfl rfl rfl rfl rfl (Nat.le_of_ble_eq_true rfl) rfl rfl (Nat.le_of_ble_eq_true rfl) (ty_rcS S (List.mem_of_getElem? (i := 5) rfl))) (Nat.le_of_ble_eq_true rfl) S (ty_make hu) ?_
  intro x hh σu S f P
  obtain ⟨e1, e2⟩ := P
  subst e2
  rw [e1]
  clear e1
  replace fr := mi_Fm_tr fr f
  refine ty_s_cv rfl rfl rfl rfl rfl rfl (mi_cal_v2 (np := 1) (args := [.ref 48, .int (Int32.ofInt (mi_sF σ 9 8))]) (rest := []) rfl rfl rfl rfl rfl (Nat.le_of_ble_eq_true rfl) rfl rfl (Nat.le_of_ble_eq_true rfl) (ty_rcS S (List.mem_of_getElem? (i := 24) rfl))) (Nat.le_of_ble_eq_true rfl) S (fo_putValue (σ := (ty_mk (mi_uF σ 48 7 (mi_sF σ 48 7 - 1)) 9 (mi_sA σ 51 (mi_sF σ 48 7 - 1)) 0 0)) (by show 0 ≤ mi_sF σ 48 7 - 1; omega) (by show mi_sF σ 48 7 - 1 < 300; omega)) ?_
  intro hh σu S f P
  subst P
  replace fr := mi_Fm_tr fr f
  exact ty_s_ret S fr rfl rfl rfl rfl ⟨rfl, rfl⟩
theorem fo_joinPair {X : mi_X} {σ : mi_Sg} {d : Nat} (h0 : 1 < mi_sF σ 48 7) (h1 : mi_sF σ 48 7 ≤ 300) (hu : mi_sF σ 9 8 < 512) : ty_Cv X (d + 3) mi_M34 [(0, .ref 48)] σ (fun σ' => σ' = mi_uF (mi_uA (ty_mk (mi_uF (mi_uF σ 48 7 (mi_sF σ 48 7 - 1)) 48 7 (mi_sF σ 48 7 - 1 - 1)) 5 (mi_sA σ 51 (mi_sF σ 48 7 - 1 - 1)) (mi_sA σ 51 (mi_sF σ 48 7 - 1)) 0) 51 (mi_sF σ 48 7 - 1 - 1) (mi_sF σ 9 8)) 48 7 (mi_sF σ 48 7 - 1 - 1 + 1)) := by
  intro h S
  have fr := mi_Fm_rf h
  refine mi_wp_p (pc' := 1) (st' := [.ref 48]) rfl rfl rfl ?_
  refine ty_s_ci rfl rfl rfl rfl rfl rfl (mi_cal_v2 (np := 0) (args := [.ref 48]) (rest := []) rfl rfl rfl rfl rfl (Nat.le_of_ble_eq_true rfl) rfl rfl (Nat.le_of_ble_eq_true rfl) (ty_rcS S (List.mem_of_getElem? (i := 24) rfl))) (Nat.le_of_ble_eq_true rfl) S (fo_takeValue (σ := σ) (by show 0 < mi_sF σ 48 7; omega) (by show mi_sF σ 48 7 ≤ 300; omega)) ?_
  intro x hh σu S f P
  obtain ⟨e1, e2⟩ := P
  subst e2
  rw [e1]
  clear e1
  replace fr := mi_Fm_tr fr f
  refine mi_wp_p (pc' := 5) (l' := [(1, .int (Int32.ofInt (mi_sA σ 51 (mi_sF σ 48 7 - 1)))), (0, .ref 48)]) (st' := []) rfl rfl rfl ?_
  refine mi_wp_p (pc' := 6) (st' := [.ref 48]) rfl rfl rfl ?_
  refine ty_s_ci rfl rfl rfl rfl rfl rfl (mi_cal_v2 (np := 0) (args := [.ref 48]) (rest := []) rfl rfl rfl rfl rfl (Nat.le_of_ble_eq_true rfl) rfl rfl (Nat.le_of_ble_eq_true rfl) (ty_rcS S (List.mem_of_getElem? (i := 24) rfl))) (Nat.le_of_ble_eq_true rfl) S (fo_takeValue (σ := (mi_uF σ 48 7 (mi_sF σ 48 7 - 1))) (by show 0 < mi_sF σ 48 7 - 1; omega) (by show mi_sF σ 48 7 - 1 ≤ 300; omega)) ?_
  intro x hh σu S f P
  obtain ⟨e1, e2⟩ := P
  subst e2
  rw [e1]
  clear e1
  replace fr := mi_Fm_tr fr f
  refine mi_wp_p (pc' := 10) (l' := [(2, .int (Int32.ofInt (mi_sA σ 51 (mi_sF σ 48 7 - 1 - 1)))), (1, .int (Int32.ofInt (mi_sA σ 51 (mi_sF σ 48 7 - 1)))), (0, .ref 48)]) (st' := []) rfl rfl rfl ?_
  refine mi_wp_p (pc' := 11) (st' := [.ref 48]) rfl rfl rfl ?_
  refine mi_wp_p (pc' := 12) (st' := [.ref 48, .ref 48]) rfl rfl rfl ?_
  refine ty_s_gr S rfl rfl rfl (List.mem_of_getElem? (i := 58) rfl) ?_
  refine mi_wp_p (pc' := 16) (st' := [.int (Int32.ofInt (mi_sA σ 51 (mi_sF σ 48 7 - 1 - 1))), .ref 9, .ref 48]) rfl rfl rfl ?_
  refine mi_wp_p (pc' := 17) (st' := [.int (Int32.ofInt (mi_sA σ 51 (mi_sF σ 48 7 - 1))), .int (Int32.ofInt (mi_sA σ 51 (mi_sF σ 48 7 - 1 - 1))), .ref 9, .ref 48]) rfl rfl rfl ?_
  refine ty_s_ci rfl rfl rfl rfl rfl rfl (mi_cal_v2 (np := 2) (args := [.ref 9, .int (Int32.ofInt (mi_sA σ 51 (mi_sF σ 48 7 - 1 - 1))), .int (Int32.ofInt (mi_sA σ 51 (mi_sF σ 48 7 - 1)))]) (rest := [.ref 48]) rfl rfl rfl rfl rfl (Nat.le_of_ble_eq_true rfl) rfl rfl (Nat.le_of_ble_eq_true rfl) (ty_rcS S (List.mem_of_getElem? (i := 5) rfl))) (Nat.le_of_ble_eq_true rfl) S (ty_pair (σ := (mi_uF (mi_uF σ 48 7 (mi_sF σ 48 7 - 1)) 48 7 (mi_sF σ 48 7 - 1 - 1))) hu) ?_
  intro x hh σu S f P
  obtain ⟨e1, e2⟩ := P
  subst e2
  rw [e1]
  clear e1
  replace fr := mi_Fm_tr fr f
  refine ty_s_cv rfl rfl rfl rfl rfl rfl (mi_cal_v2 (np := 1) (args := [.ref 48, .int (Int32.ofInt (mi_sF σ 9 8))]) (rest := []) rfl rfl rfl rfl rfl (Nat.le_of_ble_eq_true rfl) rfl rfl (Nat.le_of_ble_eq_true rfl) (ty_rcS S (List.mem_of_getElem? (i := 24) rfl))) (Nat.le_of_ble_eq_true rfl) S (fo_putValue (σ := (ty_mk (mi_uF (mi_uF σ 48 7 (mi_sF σ 48 7 - 1)) 48 7 (mi_sF σ 48 7 - 1 - 1)) 5 (mi_sA σ 51 (mi_sF σ 48 7 - 1 - 1)) (mi_sA σ 51 (mi_sF σ 48 7 - 1)) 0)) (by show 0 ≤ mi_sF σ 48 7 - 1 - 1; omega) (by show mi_sF σ 48 7 - 1 - 1 < 300; omega)) ?_
  intro hh σu S f P
  subst P
  replace fr := mi_Fm_tr fr f
  exact ty_s_ret S fr rfl rfl rfl rfl ⟨rfl, rfl⟩
/-- joinArrows after j of its turns: the type t, and the cells -/
def ja_S (σ0 : mi_Sg) : Nat → Int × mi_Sg
  | 0 => (mi_sA σ0 51 (mi_sF σ0 48 7 - 1), mi_uF σ0 48 7 (mi_sF σ0 48 7 - 1))
  | j + 1 => (mi_sF (ja_S σ0 j).2 9 8, ty_mk (mi_uF (ja_S σ0 j).2 48 7 (mi_sF (ja_S σ0 j).2 48 7 - 1)) 6 (mi_sA (ja_S σ0 j).2 51 (mi_sF (ja_S σ0 j).2 48 7 - 1)) (ja_S σ0 j).1 0)
theorem ja_vc (σ0 : mi_Sg) : ∀ j : Nat, mi_sF (ja_S σ0 j).2 48 7 = mi_sF σ0 48 7 - 1 - j ∧ mi_sF (ja_S σ0 j).2 9 8 = mi_sF σ0 9 8 + j
  | 0 => ⟨by show mi_sF σ0 48 7 - 1 = _; omega, by show mi_sF σ0 9 8 = _; omega⟩
  | j + 1 => by
    obtain ⟨h1, h2⟩ := ja_vc σ0 j
    refine ⟨?_, ?_⟩
    · show mi_sF (ja_S σ0 j).2 48 7 - 1 = _
      omega
    · show mi_sF (ja_S σ0 j).2 9 8 + 1 = _
      omega
theorem fo_ja_l {X : mi_X} {d : Nat} {h0' : mi_H} {σ0 : mi_Sg} {n : Nat} (h0 : (n : Int) < mi_sF σ0 48 7) (h1 : mi_sF σ0 48 7 ≤ 300) (hu : mi_sF σ0 9 8 + n ≤ 512) : ∀ (m : Nat) (j : Nat), n - j = m → j ≤ n → ∀ h, ty_H h (ja_S σ0 j).2 → mi_Fm h0' h → mi_wp X (d + 3) mi_M33 7 [(3, .int (Int32.ofInt (j : Int))), (2, .int (Int32.ofInt ((ja_S σ0 j).1))), (0, .ref 48), (1, .int (Int32.ofInt (n : Int)))] [] h 0 0 (fun z => ∃ v h' σ', z = (.inl v, h', 0, 0) ∧ ty_H h' σ' ∧ mi_Fm h0' h' ∧ v = none ∧ σ' = mi_uF (mi_uA (ja_S σ0 n).2 51 (mi_sF (ja_S σ0 n).2 48 7) (ja_S σ0 n).1) 48 7 (mi_sF (ja_S σ0 n).2 48 7 + 1)) := by
  intro m
  induction m using Nat.strongRecOn with
  | ind m ih =>
    intro j hm hj h S fr
    obtain ⟨v1, v2⟩ := ja_vc σ0 j
    refine mi_wp_p (pc' := 8) (st' := [.int (Int32.ofInt (j : Int))]) rfl rfl rfl ?_
    refine mi_wp_p (pc' := 9) (st' := [.int (Int32.ofInt (n : Int)), .int (Int32.ofInt (j : Int))]) rfl rfl rfl ?_
    refine mi_s_if2 (t := 38) rfl rfl rfl (by unfold mi_R; omega) (by unfold mi_R; omega) ?_ ?_
    · intro (c1 : (n : Int) ≤ (j : Int))
      refine mi_wp_p (pc' := 39) (st' := [.ref 48]) rfl rfl rfl ?_
      refine mi_wp_p (pc' := 40) (st' := [.int (Int32.ofInt ((ja_S σ0 j).1)), .ref 48]) rfl rfl rfl ?_
      refine ty_s_cv rfl rfl rfl rfl rfl rfl (mi_cal_v2 (np := 1) (args := [.ref 48, .int (Int32.ofInt ((ja_S σ0 j).1))]) (rest := []) rfl rfl rfl rfl rfl (Nat.le_of_ble_eq_true rfl) rfl rfl (Nat.le_of_ble_eq_true rfl) (ty_rcS S (List.mem_of_getElem? (i := 24) rfl))) (Nat.le_of_ble_eq_true rfl) S (fo_putValue (σ := (ja_S σ0 j).2) (by omega) (by omega)) ?_
      intro hh σu S f P
      subst P
      replace fr := mi_Fm_tr fr f
      obtain rfl : j = n := by omega
      exact ty_s_ret S fr rfl rfl rfl rfl ⟨rfl, rfl⟩
    · intro (c1 : ¬ ((n : Int) ≤ (j : Int)))
      refine mi_wp_p (pc' := 13) (st' := [.int (Int32.ofInt (j : Int))]) rfl rfl rfl ?_
      refine mi_s_k (pc' := 16) (e := 300) rfl rfl rfl (by decide +kernel) ?_
      refine mi_s_if2 (t := 38) rfl rfl rfl (by unfold mi_R; omega) (by unfold mi_R; omega) (fun hc_ => absurd (show 300 ≤ (j : Int) from hc_) (by omega)) (fun _ => ?_)
      refine mi_wp_p (pc' := 20) (st' := [.ref 48]) rfl rfl rfl ?_
      refine ty_s_gr S rfl rfl rfl (List.mem_of_getElem? (i := 58) rfl) ?_
      refine mi_wp_p (pc' := 24) (st' := [.ref 48, .ref 9]) rfl rfl rfl ?_
      refine ty_s_ci rfl rfl rfl rfl rfl rfl (mi_cal_v2 (np := 0) (args := [.ref 48]) (rest := [.ref 9]) rfl rfl rfl rfl rfl (Nat.le_of_ble_eq_true rfl) rfl rfl (Nat.le_of_ble_eq_true rfl) (ty_rcS S (List.mem_of_getElem? (i := 24) rfl))) (Nat.le_of_ble_eq_true rfl) S (fo_takeValue (σ := (ja_S σ0 j).2) (by omega) (by omega)) ?_
      intro x hh σu S f P
      obtain ⟨e1, e2⟩ := P
      subst e2
      rw [e1]
      clear e1
      replace fr := mi_Fm_tr fr f
      refine mi_wp_p (pc' := 28) (st' := [.int (Int32.ofInt ((ja_S σ0 j).1)), .int (Int32.ofInt (mi_sA (ja_S σ0 j).2 51 (mi_sF (ja_S σ0 j).2 48 7 - 1))), .ref 9]) rfl rfl rfl ?_
      refine ty_s_ci rfl rfl rfl rfl rfl rfl (mi_cal_v2 (np := 2) (args := [.ref 9, .int (Int32.ofInt (mi_sA (ja_S σ0 j).2 51 (mi_sF (ja_S σ0 j).2 48 7 - 1))), .int (Int32.ofInt ((ja_S σ0 j).1))]) (rest := []) rfl rfl rfl rfl rfl (Nat.le_of_ble_eq_true rfl) rfl rfl (Nat.le_of_ble_eq_true rfl) (ty_rcS S (List.mem_of_getElem? (i := 5) rfl))) (Nat.le_of_ble_eq_true rfl) S (ty_function (σ := (mi_uF (ja_S σ0 j).2 48 7 (mi_sF (ja_S σ0 j).2 48 7 - 1))) (by show mi_sF (ja_S σ0 j).2 9 8 < 512; omega)) ?_
      intro x hh σu S f P
      obtain ⟨e1, e2⟩ := P
      subst e2
      rw [e1]
      clear e1
      replace fr := mi_Fm_tr fr f
      refine mi_wp_p (pc' := 32) (l' := [(2, .int (Int32.ofInt (mi_sF (ja_S σ0 j).2 9 8))), (3, .int (Int32.ofInt (j : Int))), (0, .ref 48), (1, .int (Int32.ofInt (n : Int)))]) (st' := []) rfl rfl rfl ?_
      refine mi_s_inc (l' := [(3, .int (Int32.ofInt ((j : Int) + 1))), (2, .int (Int32.ofInt (mi_sF (ja_S σ0 j).2 9 8))), (0, .ref 48), (1, .int (Int32.ofInt (n : Int)))]) rfl rfl rfl (by decide) rfl ?_
      refine mi_wp_p (pc' := 7) rfl rfl rfl ?_
      refine mi_wp_lw (l := [(3, .int (Int32.ofInt ((j : Int) + 1))), (2, .int (Int32.ofInt (ja_S σ0 (j + 1)).1)), (0, .ref 48), (1, .int (Int32.ofInt (n : Int)))]) (mi_lw_of (show List.Nodup [3, 2, 0, 1] by decide) ⟨rfl, rfl, rfl, rfl, trivial⟩) ?_
      exact ih _ (by omega) (j + 1) rfl (by omega) _ S fr
theorem fo_joinArrows {X : mi_X} {d : Nat} {σ0 : mi_Sg} {n : Nat} (h0 : (n : Int) < mi_sF σ0 48 7) (h1 : mi_sF σ0 48 7 ≤ 300) (hu : mi_sF σ0 9 8 + n ≤ 512) : ty_Cv X (d + 3) mi_M33 [(0, .ref 48), (1, .int (Int32.ofInt (n : Int)))] σ0 (fun σ' => σ' = mi_uF (mi_uA (ja_S σ0 n).2 51 (mi_sF (ja_S σ0 n).2 48 7) (ja_S σ0 n).1) 48 7 (mi_sF (ja_S σ0 n).2 48 7 + 1)) := by
  intro h S
  have fr := mi_Fm_rf h
  refine mi_wp_p (pc' := 1) (st' := [.ref 48]) rfl rfl rfl ?_
  refine ty_s_ci rfl rfl rfl rfl rfl rfl (mi_cal_v2 (np := 0) (args := [.ref 48]) (rest := []) rfl rfl rfl rfl rfl (Nat.le_of_ble_eq_true rfl) rfl rfl (Nat.le_of_ble_eq_true rfl) (ty_rcS S (List.mem_of_getElem? (i := 24) rfl))) (Nat.le_of_ble_eq_true rfl) S (fo_takeValue (σ := σ0) (by omega) (by omega)) ?_
  intro x hh σu S f P
  obtain ⟨e1, e2⟩ := P
  subst e2
  rw [e1]
  clear e1
  replace fr := mi_Fm_tr fr f
  refine mi_wp_p (pc' := 5) (l' := [(2, .int (Int32.ofInt (mi_sA σ0 51 (mi_sF σ0 48 7 - 1)))), (0, .ref 48), (1, .int (Int32.ofInt (n : Int)))]) (st' := []) rfl rfl rfl ?_
  refine mi_wp_p (pc' := 6) (st' := [.int (Int32.ofInt 0)]) rfl rfl rfl ?_
  refine mi_wp_p (pc' := 7) (l' := [(3, .int (Int32.ofInt 0)), (2, .int (Int32.ofInt (mi_sA σ0 51 (mi_sF σ0 48 7 - 1)))), (0, .ref 48), (1, .int (Int32.ofInt (n : Int)))]) (st' := []) rfl rfl rfl ?_
  refine mi_wp_lw (l := [(3, .int (Int32.ofInt ((0 : Nat) : Int))), (2, .int (Int32.ofInt (ja_S σ0 0).1)), (0, .ref 48), (1, .int (Int32.ofInt (n : Int)))]) (mi_lw_of (show List.Nodup [3, 2, 0, 1] by decide) ⟨rfl, rfl, rfl, rfl, trivial⟩) ?_
  exact fo_ja_l h0 h1 hu _ 0 rfl (by omega) _ S fr
theorem fo_forgetMarks {X : mi_X} {σ : mi_Sg} {d : Nat}  : ty_Cv X (d + 1) mi_M32 [(0, .ref 48)] σ (fun σ' => sg_Af [49, 50] [(48, 7), (48, 8)] σ σ' ∧ (∀ j, 0 ≤ j → j < 26 → mi_sA σ' 49 j = 0) ∧ mi_sF σ' 48 7 = 0) := by
  intro h S
  have fr := mi_Fm_rf h
  refine mi_wp_p (pc' := 1) (st' := [.ref 48]) rfl rfl rfl ?_
  refine ty_s_gr S rfl rfl rfl (List.mem_of_getElem? (i := 61) rfl) ?_
  refine mi_wp_p (pc' := 5) (st' := [.int (Int32.ofInt 0), .ref 49]) rfl rfl rfl ?_
  refine ty_s_cv rfl rfl rfl rfl rfl rfl (mi_cal_s2 (np := 2) (args := [.ref 49, .int (Int32.ofInt 0)]) (rest := []) rfl rfl rfl (Or.inl rfl) rfl (Nat.le_of_ble_eq_true rfl) rfl rfl (Nat.le_of_ble_eq_true rfl)) (Nat.le_of_ble_eq_true rfl) S fill49 ?_
  intro hh σ1 S f P1
  replace fr := mi_Fm_tr fr f
  refine mi_wp_p (pc' := 9) (st' := [.ref 48]) rfl rfl rfl ?_
  refine ty_s_gr S rfl rfl rfl (List.mem_of_getElem? (i := 62) rfl) ?_
  refine mi_wp_p (pc' := 13) (st' := [.int (Int32.ofInt 0), .ref 50]) rfl rfl rfl ?_
  refine ty_s_cv rfl rfl rfl rfl rfl rfl (mi_cal_s2 (np := 2) (args := [.ref 50, .int (Int32.ofInt 0)]) (rest := []) rfl rfl rfl (Or.inl rfl) rfl (Nat.le_of_ble_eq_true rfl) rfl rfl (Nat.le_of_ble_eq_true rfl)) (Nat.le_of_ble_eq_true rfl) S fill50 ?_
  intro hh σ2 S f P2
  replace fr := mi_Fm_tr fr f
  refine mi_wp_p (pc' := 17) (st' := [.ref 48]) rfl rfl rfl ?_
  refine mi_wp_p (pc' := 18) (st' := [.int (Int32.ofInt 0), .ref 48]) rfl rfl rfl ?_
  refine ty_s_pf S rfl rfl rfl (List.mem_of_getElem? (i := 25) rfl) (by decide) mi_fit_int (Or.inl rfl) ?_
  intro h1 S f
  replace fr := mi_Fm_tr fr f
  refine mi_wp_p (pc' := 22) (st' := [.ref 48]) rfl rfl rfl ?_
  refine mi_wp_p (pc' := 23) (st' := [.int (Int32.ofInt 0), .ref 48]) rfl rfl rfl ?_
  refine ty_s_pf S rfl rfl rfl (List.mem_of_getElem? (i := 24) rfl) (by decide) mi_fit_int (Or.inl rfl) ?_
  intro h2 S f
  replace fr := mi_Fm_tr fr f
  exact ty_s_ret S fr rfl rfl rfl rfl ⟨rfl, sg_Af_F (sg_Af_F (sg_Af_tr (sg_Af_w P1.1 (by decide) (by decide)) (sg_Af_w P2.1 (by decide) (by decide))) (by decide)) (by decide), fun j a b => (P2.1.2.1 49 j (by decide)).trans (P1.2 j a b), rfl⟩
theorem fo_beginForm {X : mi_X} {σ : mi_Sg} {d : Nat}  : ty_Cv X (d + 2) mi_M31 [(0, .ref 48)] σ (fun σ' => sg_Af [49, 50] [(48, 7), (48, 8), (48, 9)] σ σ' ∧ (∀ j, 0 ≤ j → j < 26 → mi_sA σ' 49 j = 0) ∧ mi_sF σ' 48 7 = 0 ∧ mi_sF σ' 48 9 = 0) := by
  intro h S
  have fr := mi_Fm_rf h
  refine mi_wp_p (pc' := 1) (st' := [.ref 48]) rfl rfl rfl ?_
  refine ty_s_cv rfl rfl rfl rfl rfl rfl (mi_cal_v2 (np := 0) (args := [.ref 48]) (rest := []) rfl rfl rfl rfl rfl (Nat.le_of_ble_eq_true rfl) rfl rfl (Nat.le_of_ble_eq_true rfl) (ty_rcS S (List.mem_of_getElem? (i := 24) rfl))) (Nat.le_of_ble_eq_true rfl) S fo_forgetMarks ?_
  intro hh σ1 S f P
  replace fr := mi_Fm_tr fr f
  refine mi_wp_p (pc' := 5) (st' := [.ref 48]) rfl rfl rfl ?_
  refine mi_wp_p (pc' := 6) (st' := [.int (Int32.ofInt 0), .ref 48]) rfl rfl rfl ?_
  refine ty_s_pf S rfl rfl rfl (List.mem_of_getElem? (i := 26) rfl) (by decide) (by decide +kernel) (Or.inl rfl) ?_
  intro h3 S f
  replace fr := mi_Fm_tr fr f
  exact ty_s_ret S fr rfl rfl rfl rfl ⟨rfl, sg_Af_F (sg_Af_w P.1 (by decide) (by decide)) (by decide), P.2.1, P.2.2, rfl⟩
