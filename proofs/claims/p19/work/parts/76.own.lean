/-! ===== the own name; run, begun (printed by wip/gen/p_own.py) ===== -/
theorem ck_name_own {X : mi_X} {σ : mi_Sg} {d : Nat} {a : Int} (t0 : 0 ≤ a) (t1 : a < mi_sF σ 3 7) (t2 : mi_sF σ 3 7 ≤ 301) (z0 : 0 ≤ mi_sF σ 44 3) (z1 : mi_sF σ 44 3 ≤ 300) (nn : ∀ j, 0 ≤ j → j < mi_sF σ 44 3 → mi_sE σ 45 j ≠ mi_sE σ 8 a) (o0 : 0 ≤ mi_sF σ 43 7) (o1 : mi_sF σ 43 7 < 24) (o2 : mi_sE σ 8 a = mi_sB σ 43 8) : ty_Ci X (d + 2) mi_M26 [(0, .ref 43), (1, .int (Int32.ofInt a))] σ (fun x σ' => x = mi_sF σ 43 9 ∧ σ' = (mi_uA σ 25 (mi_sF σ 43 7 * 24 + mi_sF σ 43 7) (mi_sA σ 25 (mi_sF σ 43 7 * 24 + mi_sF σ 43 7) + 1))) := by
  intro h S
  have fr := mi_Fm_rf h
  refine mi_wp_p (pc' := 1) (st' := [.ref 43]) rfl rfl rfl ?_
  refine ty_s_gr S rfl rfl rfl (List.mem_of_getElem? (i := 48) rfl) ?_
  refine mi_wp_p (pc' := 5) (st' := [.int (Int32.ofInt a), .ref 3]) rfl rfl rfl ?_
  refine ty_s_cj rfl rfl rfl rfl rfl rfl (mi_cal_v2 (np := 1) (args := [.ref 3, .int (Int32.ofInt a)]) (rest := []) rfl rfl rfl rfl rfl (Nat.le_of_ble_eq_true rfl) rfl rfl (Nat.le_of_ble_eq_true rfl) (ty_rcS S (List.mem_of_getElem? (i := 3) rfl))) (Nat.le_of_ble_eq_true rfl) S (to_keyOf t0 t1 t2) ?_
  intro x hh σu S f P
  obtain ⟨e1, e2⟩ := P
  rw [e2] at S
  rw [e1]
  clear e1 e2
  replace fr := mi_Fm_tr fr f
  refine mi_wp_p (pc' := 9) (l' := [(2, .long (mi_sE σ 8 a)), (0, .ref 43), (1, .int (Int32.ofInt a))]) (st' := []) rfl rfl rfl ?_
  refine mi_wp_p (pc' := 10) (st' := [.ref 43]) rfl rfl rfl ?_
  refine ty_s_gr S rfl rfl rfl (List.mem_of_getElem? (i := 53) rfl) ?_
  refine mi_wp_p (pc' := 14) (st' := [.long (mi_sE σ 8 a), .ref 44]) rfl rfl rfl ?_
  refine ty_s_ci rfl rfl rfl rfl rfl rfl (mi_cal_v2 (np := 1) (args := [.ref 44, .long (mi_sE σ 8 a)]) (rest := []) rfl rfl rfl rfl rfl (Nat.le_of_ble_eq_true rfl) rfl rfl (Nat.le_of_ble_eq_true rfl) (ty_rcS S (List.mem_of_getElem? (i := 23) rfl))) (Nat.le_of_ble_eq_true rfl) S (sc_nearest z0 z1) ?_
  intro x hh σu S f P
  obtain ⟨P, e2⟩ := P
  rw [e2] at S
  obtain e3 : x = -1 := nr_no P nn
  rw [e3]
  clear P e2 e3 x
  replace fr := mi_Fm_tr fr f
  refine mi_wp_p (pc' := 19) (l' := [(4, .int (Int32.ofInt (-1))), (2, .long (mi_sE σ 8 a)), (0, .ref 43), (1, .int (Int32.ofInt a))]) (st' := []) rfl rfl rfl ?_
  refine mi_wp_p (pc' := 21) (st' := [.int (Int32.ofInt (-1))]) rfl rfl rfl ?_
  refine mi_s_if1 (t := 63) rfl rfl rfl (by unfold mi_R; omega) (fun _ => ?_) (fun hc_ => absurd (show ((-1) : Int) < 0 by omega) hc_)
  refine mi_wp_p (pc' := 64) (st' := [.ref 43]) rfl rfl rfl ?_
  refine ty_s_gf (x := mi_sF σ 43 7) S rfl rfl rfl (List.mem_of_getElem? (i := 19) rfl) rfl ?_
  refine mi_wp_p (pc' := 68) (st' := [.int (Int32.ofInt (-1)), .int (Int32.ofInt (mi_sF σ 43 7))]) rfl rfl rfl ?_
  refine mi_s_if2 (t := 100) rfl rfl rfl (by unfold mi_R; omega) (by unfold mi_R; omega) (fun hc_ => absurd (show (mi_sF σ 43 7) = (-1) from hc_) (by omega)) (fun _ => ?_)
  refine mi_wp_p (pc' := 72) (st' := [.long (mi_sE σ 8 a)]) rfl rfl rfl ?_
  refine mi_wp_p (pc' := 73) (st' := [.ref 43, .long (mi_sE σ 8 a)]) rfl rfl rfl ?_
  refine ty_s_gj (x := mi_sB σ 43 8) S rfl rfl rfl (List.mem_of_getElem? (i := 0) rfl) rfl ?_
  refine mi_s_lne (t := 100) rfl rfl rfl rfl rfl ?_ ?_
  · intro (c1 : mi_sE σ 8 a ≠ mi_sB σ 43 8)
    exact absurd o2 c1
  · intro (c1 : mi_sE σ 8 a = mi_sB σ 43 8)
    refine mi_wp_p (pc' := 81) (st' := [.ref 43]) rfl rfl rfl ?_
    refine ty_s_gr S rfl rfl rfl (List.mem_of_getElem? (i := 50) rfl) ?_
    refine mi_wp_p (pc' := 85) (st' := [.ref 43, .ref 17]) rfl rfl rfl ?_
    refine ty_s_gf (x := mi_sF σ 43 7) S rfl rfl rfl (List.mem_of_getElem? (i := 19) rfl) rfl ?_
    refine mi_wp_p (pc' := 89) (st' := [.ref 43, .int (Int32.ofInt (mi_sF σ 43 7)), .ref 17]) rfl rfl rfl ?_
    refine ty_s_gf (x := mi_sF σ 43 7) S rfl rfl rfl (List.mem_of_getElem? (i := 19) rfl) rfl ?_
    refine ty_s_cv rfl rfl rfl rfl rfl rfl (mi_cal_v2 (np := 2) (args := [.ref 17, .int (Int32.ofInt (mi_sF σ 43 7)), .int (Int32.ofInt (mi_sF σ 43 7))]) (rest := []) rfl rfl rfl rfl rfl (Nat.le_of_ble_eq_true rfl) rfl rfl (Nat.le_of_ble_eq_true rfl) (ty_rcS S (List.mem_of_getElem? (i := 10) rfl))) (Nat.le_of_ble_eq_true rfl) S (kn_addUse o0 o1 o0 o1) ?_
    intro hh σ1 S f P
    subst P
    replace fr := mi_Fm_tr fr f
    refine mi_wp_p (pc' := 96) (st' := [.ref 43]) rfl rfl rfl ?_
    refine ty_s_gf (x := mi_sF (mi_uA σ 25 (mi_sF σ 43 7 * 24 + mi_sF σ 43 7) (mi_sA σ 25 (mi_sF σ 43 7 * 24 + mi_sF σ 43 7) + 1)) 43 9) S rfl rfl rfl (List.mem_of_getElem? (i := 20) rfl) rfl ?_
    exact ty_s_ret S fr rfl rfl rfl (mi_ret_i rfl) ⟨_, rfl, ⟨rfl, rfl⟩⟩
theorem run26_go {X : mi_X} {d : Nat} {σ : mi_Sg} {P : mi_Sg → Prop} (H : ∀ h0, RH X d h0 (fun z => ∃ v h' σ', z = (.inl v, h', 0, 0) ∧ ty_H h' σ' ∧ mi_Fm h0 h' ∧ v = none ∧ P σ') 0 (mi_uF (mi_uF (mi_uF (mi_uF (mi_uF σ 43 6 26) 44 3 0) 43 7 (-1)) 43 9 0) 43 10 0)) : ty_Cv X (d + 12) mi_M22 [(0, .ref 43), (1, .ref 26)] σ P := by
  intro h S
  have fr := mi_Fm_rf h
  refine mi_wp_p (pc' := 1) (st' := [.ref 43]) rfl rfl rfl ?_
  refine mi_wp_p (pc' := 2) (st' := [.ref 26, .ref 43]) rfl rfl rfl ?_
  refine ty_s_pv S rfl rfl rfl (List.mem_of_getElem? (i := 1) rfl) (by decide) rfl (Or.inl rfl) ?_
  intro h1 S f
  replace fr := mi_Fm_tr fr f
  refine mi_wp_p (pc' := 6) (st' := [.ref 43]) rfl rfl rfl ?_
  refine ty_s_cv rfl rfl rfl rfl rfl rfl (mi_cal_v2 (np := 0) (args := [.ref 43]) (rest := []) rfl rfl rfl rfl rfl (Nat.le_of_ble_eq_true rfl) rfl rfl (Nat.le_of_ble_eq_true rfl) (ty_rcS S (List.mem_of_getElem? (i := 19) rfl))) (Nat.le_of_ble_eq_true rfl) S ck_leave ?_
  intro hh σl S f P
  subst P
  replace fr := mi_Fm_tr fr f
  refine mi_wp_p (pc' := 10) (st' := [.int (Int32.ofInt 0)]) rfl rfl rfl ?_
  refine mi_wp_p (pc' := 11) (l' := [(2, .int (Int32.ofInt 0)), (0, .ref 43), (1, .ref 26)]) (st' := []) rfl rfl rfl ?_
  refine mi_wp_lw (l := [(2, .int (Int32.ofInt 0)), (0, .ref 43), (1, .ref 26)]) (mi_lw_of (show List.Nodup [2, 0, 1] by decide) ⟨rfl, rfl, rfl, trivial⟩) ?_
  exact H h _ S fr
theorem rh_end {X : mi_X} {d : Nat} {h0 : mi_H} {n : Int} {σ : mi_Sg} {P : mi_Sg → Prop} (n0 : 0 ≤ n) (n1 : n = mi_sF σ 26 7) (n2 : mi_sF σ 26 7 ≤ 1024) (hP : P σ) : RH X d h0 (fun z => ∃ v h' σ', z = (.inl v, h', 0, 0) ∧ ty_H h' σ' ∧ mi_Fm h0 h' ∧ v = none ∧ P σ') n σ := by
  intro h S fr
  refine mi_wp_p (pc' := 12) (st' := [.int (Int32.ofInt n)]) rfl rfl rfl ?_
  refine mi_wp_p (pc' := 13) (st' := [.ref 26, .int (Int32.ofInt n)]) rfl rfl rfl ?_
  refine ty_s_ci rfl rfl rfl rfl rfl rfl (mi_cal_v2 (np := 0) (args := [.ref 26]) (rest := [.int (Int32.ofInt n)]) rfl rfl rfl rfl rfl (Nat.le_of_ble_eq_true rfl) rfl rfl (Nat.le_of_ble_eq_true rfl) (ty_rcS S (List.mem_of_getElem? (i := 16) rfl))) (Nat.le_of_ble_eq_true rfl) S st26_size ?_
  intro x hh σu S f P
  obtain ⟨e1, e2⟩ := P
  rw [e2] at S
  rw [e1]
  clear e1 e2
  replace fr := mi_Fm_tr fr f
  refine mi_s_if2 (t := 103) rfl rfl rfl (by unfold mi_R; omega) (by unfold mi_R; omega) (fun _ => ?_) (fun hc_ => absurd (show (mi_sF σ 26 7) ≤ n by omega) hc_)
  exact ty_s_ret S fr rfl rfl rfl rfl ⟨rfl, hP⟩
/-- run on a question, from its loop on -/
def RQ (X : mi_X) (d : Nat) (h0 : mi_H) (Q : mi_Z → Prop) (n : Int) (σ : mi_Sg) : Prop := ∀ h, ty_H h σ → mi_Fm h0 h → mi_wp X (d + 12) mi_M22 11 [(2, .int (Int32.ofInt n)), (0, .ref 43), (1, .ref 34)] [] h 0 0 Q
theorem run34_go {X : mi_X} {d : Nat} {σ : mi_Sg} {P : mi_Sg → Prop} (H : ∀ h0, RQ X d h0 (fun z => ∃ v h' σ', z = (.inl v, h', 0, 0) ∧ ty_H h' σ' ∧ mi_Fm h0 h' ∧ v = none ∧ P σ') 0 (mi_uF (mi_uF (mi_uF (mi_uF (mi_uF σ 43 6 34) 44 3 0) 43 7 (-1)) 43 9 0) 43 10 0)) : ty_Cv X (d + 12) mi_M22 [(0, .ref 43), (1, .ref 34)] σ P := by
  intro h S
  have fr := mi_Fm_rf h
  refine mi_wp_p (pc' := 1) (st' := [.ref 43]) rfl rfl rfl ?_
  refine mi_wp_p (pc' := 2) (st' := [.ref 34, .ref 43]) rfl rfl rfl ?_
  refine ty_s_pv S rfl rfl rfl (List.mem_of_getElem? (i := 1) rfl) (by decide) rfl (Or.inl rfl) ?_
  intro h1 S f
  replace fr := mi_Fm_tr fr f
  refine mi_wp_p (pc' := 6) (st' := [.ref 43]) rfl rfl rfl ?_
  refine ty_s_cv rfl rfl rfl rfl rfl rfl (mi_cal_v2 (np := 0) (args := [.ref 43]) (rest := []) rfl rfl rfl rfl rfl (Nat.le_of_ble_eq_true rfl) rfl rfl (Nat.le_of_ble_eq_true rfl) (ty_rcS S (List.mem_of_getElem? (i := 19) rfl))) (Nat.le_of_ble_eq_true rfl) S ck_leave ?_
  intro hh σl S f P
  subst P
  replace fr := mi_Fm_tr fr f
  refine mi_wp_p (pc' := 10) (st' := [.int (Int32.ofInt 0)]) rfl rfl rfl ?_
  refine mi_wp_p (pc' := 11) (l' := [(2, .int (Int32.ofInt 0)), (0, .ref 43), (1, .ref 34)]) (st' := []) rfl rfl rfl ?_
  refine mi_wp_lw (l := [(2, .int (Int32.ofInt 0)), (0, .ref 43), (1, .ref 34)]) (mi_lw_of (show List.Nodup [2, 0, 1] by decide) ⟨rfl, rfl, rfl, trivial⟩) ?_
  exact H h _ S fr
theorem rq_end {X : mi_X} {d : Nat} {h0 : mi_H} {n : Int} {σ : mi_Sg} {P : mi_Sg → Prop} (n0 : 0 ≤ n) (n1 : n = mi_sF σ 34 7) (n2 : mi_sF σ 34 7 ≤ 1024) (hP : P σ) : RQ X d h0 (fun z => ∃ v h' σ', z = (.inl v, h', 0, 0) ∧ ty_H h' σ' ∧ mi_Fm h0 h' ∧ v = none ∧ P σ') n σ := by
  intro h S fr
  refine mi_wp_p (pc' := 12) (st' := [.int (Int32.ofInt n)]) rfl rfl rfl ?_
  refine mi_wp_p (pc' := 13) (st' := [.ref 34, .int (Int32.ofInt n)]) rfl rfl rfl ?_
  refine ty_s_ci rfl rfl rfl rfl rfl rfl (mi_cal_v2 (np := 0) (args := [.ref 34]) (rest := [.int (Int32.ofInt n)]) rfl rfl rfl rfl rfl (Nat.le_of_ble_eq_true rfl) rfl rfl (Nat.le_of_ble_eq_true rfl) (ty_rcS S (List.mem_of_getElem? (i := 17) rfl))) (Nat.le_of_ble_eq_true rfl) S st34_size ?_
  intro x hh σu S f P
  obtain ⟨e1, e2⟩ := P
  rw [e2] at S
  rw [e1]
  clear e1 e2
  replace fr := mi_Fm_tr fr f
  refine mi_s_if2 (t := 103) rfl rfl rfl (by unfold mi_R; omega) (by unfold mi_R; omega) (fun _ => ?_) (fun hc_ => absurd (show (mi_sF σ 34 7) ≤ n by omega) hc_)
  exact ty_s_ret S fr rfl rfl rfl rfl ⟨rfl, hP⟩
theorem rq_expr {X : mi_X} {d : Nat} {h0 : mi_H} {Q : mi_Z → Prop} {n k a b : Int} {σ : mi_Sg} (n0 : 0 ≤ n) (n1 : n < mi_sF σ 34 7) (n2 : mi_sF σ 34 7 ≤ 1024) (f0 : mi_sF σ 2 0 = 0) (e1 : mi_sA σ 35 n = k) (e2 : mi_sA σ 36 n = a) (e3 : mi_sA σ 37 n = b) {P : Int → mi_Sg → Prop} (hk : 19 ≤ k ∧ k < 40) (H : ty_Ci X (d + 11) mi_M24 [(0, .ref 43), (1, .int (Int32.ofInt k)), (2, .int (Int32.ofInt a)), (3, .int (Int32.ofInt b))] σ P) (hP : ∀ x σ', P x σ' → mi_sF σ' 34 7 = mi_sF σ 34 7) (KX : ∀ x σ', P x σ' → RQ X d h0 Q (n + 1) (mi_uA σ' 41 n x)) : RQ X d h0 Q n σ := by
  intro h S fr
  have hu := ty_H_u S
  refine mi_wp_p (pc' := 12) (st' := [.int (Int32.ofInt n)]) rfl rfl rfl ?_
  refine mi_wp_p (pc' := 13) (st' := [.ref 34, .int (Int32.ofInt n)]) rfl rfl rfl ?_
  refine ty_s_ci rfl rfl rfl rfl rfl rfl (mi_cal_v2 (np := 0) (args := [.ref 34]) (rest := [.int (Int32.ofInt n)]) rfl rfl rfl rfl rfl (Nat.le_of_ble_eq_true rfl) rfl rfl (Nat.le_of_ble_eq_true rfl) (ty_rcS S (List.mem_of_getElem? (i := 17) rfl))) (Nat.le_of_ble_eq_true rfl) S st34_size ?_
  intro x hh σu S f P
  obtain ⟨e1, e2⟩ := P
  rw [e2] at S
  rw [e1]
  clear e1 e2
  replace fr := mi_Fm_tr fr f
  refine mi_s_if2 (t := 103) rfl rfl rfl (by unfold mi_R; omega) (by unfold mi_R; omega) (fun hc_ => absurd (show (mi_sF σ 34 7) ≤ n from hc_) (by omega)) (fun _ => ?_)
  refine mi_wp_p (pc' := 20) (st' := [.ref 43]) rfl rfl rfl ?_
  refine ty_s_gr S rfl rfl rfl (List.mem_of_getElem? (i := 51) rfl) ?_
  refine ty_s_ci rfl rfl rfl rfl rfl rfl (mi_cal_v2 (np := 0) (args := [.ref 2]) (rest := []) rfl rfl rfl rfl rfl (Nat.le_of_ble_eq_true rfl) rfl rfl (Nat.le_of_ble_eq_true rfl) (ty_rcS S (List.mem_of_getElem? (i := 1) rfl))) (Nat.le_of_ble_eq_true rfl) S (fa_stands f0) ?_
  intro x hh σu S f P
  obtain ⟨e1, e2⟩ := P
  rw [e2] at S
  rw [e1]
  clear e1 e2
  replace fr := mi_Fm_tr fr f
  refine mi_s_if1 (t := 103) rfl rfl rfl (by unfold mi_R; omega) (fun hc_ => absurd (show (0 : Int) ≠ 0 from hc_) (by omega)) (fun _ => ?_)
  refine mi_wp_p (pc' := 30) (st' := [.ref 34]) rfl rfl rfl ?_
  refine mi_wp_p (pc' := 31) (st' := [.int (Int32.ofInt n), .ref 34]) rfl rfl rfl ?_
  refine ty_s_ci rfl rfl rfl rfl rfl rfl (mi_cal_v2 (np := 1) (args := [.ref 34, .int (Int32.ofInt n)]) (rest := []) rfl rfl rfl rfl rfl (Nat.le_of_ble_eq_true rfl) rfl rfl (Nat.le_of_ble_eq_true rfl) (ty_rcS S (List.mem_of_getElem? (i := 17) rfl))) (Nat.le_of_ble_eq_true rfl) S (st34_kindOf n0 n1 n2) ?_
  intro x hh σu S f P
  obtain ⟨q1, q2⟩ := P
  rw [q2] at S
  rw [q1, e1]
  clear q1 q2
  replace fr := mi_Fm_tr fr f
  refine mi_wp_p (pc' := 35) (l' := [(3, .int (Int32.ofInt k)), (2, .int (Int32.ofInt n)), (0, .ref 43), (1, .ref 34)]) (st' := []) rfl rfl rfl ?_
  refine mi_wp_p (pc' := 36) (st' := [.int (Int32.ofInt k)]) rfl rfl rfl ?_
  refine mi_s_k (pc' := 38) (e := 19) rfl rfl rfl (by decide +kernel) ?_
  refine mi_s_if2 (t := 64) rfl rfl rfl (by unfold mi_R; omega) (by unfold mi_R; omega) (fun hc_ => absurd (show k < 19 from hc_) (by omega)) (fun _ => ?_)
  refine mi_wp_p (pc' := 42) (st' := [.ref 34]) rfl rfl rfl ?_
  refine mi_wp_p (pc' := 43) (st' := [.int (Int32.ofInt n), .ref 34]) rfl rfl rfl ?_
  refine mi_wp_p (pc' := 44) (st' := [.ref 43, .int (Int32.ofInt n), .ref 34]) rfl rfl rfl ?_
  refine mi_wp_p (pc' := 45) (st' := [.int (Int32.ofInt k), .ref 43, .int (Int32.ofInt n), .ref 34]) rfl rfl rfl ?_
  refine mi_wp_p (pc' := 46) (st' := [.ref 34, .int (Int32.ofInt k), .ref 43, .int (Int32.ofInt n), .ref 34]) rfl rfl rfl ?_
  refine mi_wp_p (pc' := 47) (st' := [.int (Int32.ofInt n), .ref 34, .int (Int32.ofInt k), .ref 43, .int (Int32.ofInt n), .ref 34]) rfl rfl rfl ?_
  refine ty_s_ci rfl rfl rfl rfl rfl rfl (mi_cal_v2 (np := 1) (args := [.ref 34, .int (Int32.ofInt n)]) (rest := [.int (Int32.ofInt k), .ref 43, .int (Int32.ofInt n), .ref 34]) rfl rfl rfl rfl rfl (Nat.le_of_ble_eq_true rfl) rfl rfl (Nat.le_of_ble_eq_true rfl) (ty_rcS S (List.mem_of_getElem? (i := 17) rfl))) (Nat.le_of_ble_eq_true rfl) S (st34_aOf n0 n1 n2) ?_
  intro x hh σu S f P
  obtain ⟨q1, q2⟩ := P
  rw [q2] at S
  rw [q1, e2]
  clear q1 q2
  replace fr := mi_Fm_tr fr f
  refine mi_wp_p (pc' := 51) (st' := [.ref 34, .int (Int32.ofInt a), .int (Int32.ofInt k), .ref 43, .int (Int32.ofInt n), .ref 34]) rfl rfl rfl ?_
  refine mi_wp_p (pc' := 52) (st' := [.int (Int32.ofInt n), .ref 34, .int (Int32.ofInt a), .int (Int32.ofInt k), .ref 43, .int (Int32.ofInt n), .ref 34]) rfl rfl rfl ?_
  refine ty_s_ci rfl rfl rfl rfl rfl rfl (mi_cal_v2 (np := 1) (args := [.ref 34, .int (Int32.ofInt n)]) (rest := [.int (Int32.ofInt a), .int (Int32.ofInt k), .ref 43, .int (Int32.ofInt n), .ref 34]) rfl rfl rfl rfl rfl (Nat.le_of_ble_eq_true rfl) rfl rfl (Nat.le_of_ble_eq_true rfl) (ty_rcS S (List.mem_of_getElem? (i := 17) rfl))) (Nat.le_of_ble_eq_true rfl) S (st34_bOf n0 n1 n2) ?_
  intro x hh σu S f P
  obtain ⟨q1, q2⟩ := P
  rw [q2] at S
  rw [q1, e3]
  clear q1 q2
  replace fr := mi_Fm_tr fr f
  refine ty_s_ci rfl rfl rfl rfl rfl rfl (mi_cal_v2 (np := 3) (args := [.ref 43, .int (Int32.ofInt k), .int (Int32.ofInt a), .int (Int32.ofInt b)]) (rest := [.int (Int32.ofInt n), .ref 34]) rfl rfl rfl rfl rfl (Nat.le_of_ble_eq_true rfl) rfl rfl (Nat.le_of_ble_eq_true rfl) (ty_rcS S (List.mem_of_getElem? (i := 19) rfl))) (Nat.le_of_ble_eq_true rfl) S H ?_
  intro x hh σ1 S f P
  have hs := hP _ _ P
  replace fr := mi_Fm_tr fr f
  refine ty_s_cv rfl rfl rfl rfl rfl rfl (mi_cal_v2 (np := 2) (args := [.ref 34, .int (Int32.ofInt n), .int (Int32.ofInt x)]) (rest := []) rfl rfl rfl rfl rfl (Nat.le_of_ble_eq_true rfl) rfl rfl (Nat.le_of_ble_eq_true rfl) (ty_rcS S (List.mem_of_getElem? (i := 17) rfl))) (Nat.le_of_ble_eq_true rfl) S (st34_setType n0 (by rw [hs]; exact n1) (by rw [hs]; exact n2)) ?_
  intro hh σ2 S f P2
  rw [P2] at S
  replace fr := mi_Fm_tr fr f
  refine mi_wp_p (pc' := 97) rfl rfl rfl ?_
  refine mi_s_inc (l' := [(2, .int (Int32.ofInt (n + 1))), (3, .int (Int32.ofInt k)), (0, .ref 43), (1, .ref 34)]) rfl rfl rfl (by decide) rfl ?_
  refine mi_wp_p (pc' := 11) rfl rfl rfl ?_
  refine mi_wp_lw (l := [(2, .int (Int32.ofInt (n + 1))), (0, .ref 43), (1, .ref 34)]) (mi_lw_of (show List.Nodup [2, 0, 1] by decide) ⟨rfl, rfl, rfl, trivial⟩) ?_
  exact KX x σ1 P _ S fr
