/-! ===== Types: small methods (printed by wip/gen/p19b.py) ===== -/
theorem ty_begin {X : mi_X} {d : Nat} {σ : mi_S}  : mi_Cv X d mi_M121 [(0, .ref 9)] σ (fun σ' => σ' = mi_uF (mi_uF σ 9 11 (mi_sF σ 9 11 + 1)) 9 10 0) := by
  intro h S
  have fr := mi_Fm_rf h
  refine mi_wp_p (pc' := 1) (st' := [.ref 9]) rfl rfl rfl ?_
  refine mi_wp_p (pc' := 2) (st' := [.ref 9, .ref 9]) rfl rfl rfl ?_
  refine mi_s_gf (x := mi_sF σ 9 11) S rfl rfl rfl (List.mem_of_getElem? (i := 9) rfl) rfl ?_
  refine mi_wp_p (pc' := 6) (st' := [.int (Int32.ofInt 1), .int (Int32.ofInt (mi_sF σ 9 11)), .ref 9]) rfl rfl rfl ?_
  refine mi_s_add rfl rfl ?_
  refine mi_s_pf S rfl rfl rfl (List.mem_of_getElem? (i := 9) rfl) (by decide) mi_fit_int (Or.inl rfl) ?_
  intro h32 S f
  replace fr := mi_Fm_tr fr f
  refine mi_wp_p (pc' := 11) (st' := [.ref 9]) rfl rfl rfl ?_
  refine mi_wp_p (pc' := 12) (st' := [.int (Int32.ofInt 0), .ref 9]) rfl rfl rfl ?_
  refine mi_s_pf S rfl rfl rfl (List.mem_of_getElem? (i := 8) rfl) (by decide) mi_fit_int (Or.inl rfl) ?_
  intro h33 S f
  replace fr := mi_Fm_tr fr f
  exact mi_s_ret S fr rfl rfl rfl rfl ⟨rfl, rfl⟩
theorem ty_keep {X : mi_X} {d : Nat} {σ : mi_S}  : mi_Cv X d mi_M134 [(0, .ref 9)] σ (fun σ' => σ' = mi_uF σ 9 9 (mi_sF σ 9 8)) := by
  intro h S
  have fr := mi_Fm_rf h
  refine mi_wp_p (pc' := 1) (st' := [.ref 9]) rfl rfl rfl ?_
  refine mi_wp_p (pc' := 2) (st' := [.ref 9, .ref 9]) rfl rfl rfl ?_
  refine mi_s_gf (x := mi_sF σ 9 8) S rfl rfl rfl (List.mem_of_getElem? (i := 6) rfl) rfl ?_
  refine mi_s_pf S rfl rfl rfl (List.mem_of_getElem? (i := 7) rfl) (by decide) mi_fit_int (Or.inl rfl) ?_
  intro h34 S f
  replace fr := mi_Fm_tr fr f
  exact mi_s_ret S fr rfl rfl rfl rfl ⟨rfl, rfl⟩
theorem ty_dropLoose {X : mi_X} {d : Nat} {σ : mi_S}  : mi_Cv X d mi_M124 [(0, .ref 9)] σ (fun σ' => σ' = mi_uF σ 9 8 (mi_sF σ 9 9)) := by
  intro h S
  have fr := mi_Fm_rf h
  refine mi_wp_p (pc' := 1) (st' := [.ref 9]) rfl rfl rfl ?_
  refine mi_wp_p (pc' := 2) (st' := [.ref 9, .ref 9]) rfl rfl rfl ?_
  refine mi_s_gf (x := mi_sF σ 9 9) S rfl rfl rfl (List.mem_of_getElem? (i := 7) rfl) rfl ?_
  refine mi_s_pf S rfl rfl rfl (List.mem_of_getElem? (i := 6) rfl) (by decide) mi_fit_int (Or.inl rfl) ?_
  intro h35 S f
  replace fr := mi_Fm_tr fr f
  exact mi_s_ret S fr rfl rfl rfl rfl ⟨rfl, rfl⟩
theorem ty_extent {X : mi_X} {d : Nat} {σ : mi_S}  : mi_Ci X d mi_M126 [(0, .ref 9)] σ (fun x σ' => x = mi_sF σ 9 8 ∧ σ' = σ) := by
  intro h S
  have fr := mi_Fm_rf h
  refine mi_wp_p (pc' := 1) (st' := [.ref 9]) rfl rfl rfl ?_
  refine mi_s_gf (x := mi_sF σ 9 8) S rfl rfl rfl (List.mem_of_getElem? (i := 6) rfl) rfl ?_
  exact mi_s_ret S fr rfl rfl rfl (mi_ret_i rfl) ⟨_, rfl, ⟨rfl, rfl⟩⟩
theorem ty_gathered {X : mi_X} {d : Nat} {σ : mi_S}  : mi_Ci X d mi_M131 [(0, .ref 9)] σ (fun x σ' => x = mi_sF σ 9 10 ∧ σ' = σ) := by
  intro h S
  have fr := mi_Fm_rf h
  refine mi_wp_p (pc' := 1) (st' := [.ref 9]) rfl rfl rfl ?_
  refine mi_s_gf (x := mi_sF σ 9 10) S rfl rfl rfl (List.mem_of_getElem? (i := 8) rfl) rfl ?_
  exact mi_s_ret S fr rfl rfl rfl (mi_ret_i rfl) ⟨_, rfl, ⟨rfl, rfl⟩⟩
theorem ty_gatheredAt {X : mi_X} {d : Nat} {σ : mi_S} {a : Int} (h0 : 0 ≤ a) (h1 : a < mi_sF σ 9 10) (h2 : mi_sF σ 9 10 ≤ 512) : mi_Ci X d mi_M132 [(0, .ref 9), (1, .int (Int32.ofInt a))] σ (fun x σ' => x = mi_sA σ 15 a ∧ σ' = σ) := by
  intro h S
  have fr := mi_Fm_rf h
  refine mi_wp_p (pc' := 1) (st' := [.int (Int32.ofInt a)]) rfl rfl rfl ?_
  refine mi_s_if1 (t := 21) rfl rfl rfl (by unfold mi_R; omega) (fun c => absurd (show a < 0 from c) (by omega)) (fun _ => ?_)
  refine mi_wp_p (pc' := 5) (st' := [.int (Int32.ofInt a)]) rfl rfl rfl ?_
  refine mi_wp_p (pc' := 6) (st' := [.ref 9, .int (Int32.ofInt a)]) rfl rfl rfl ?_
  refine mi_s_gf (x := mi_sF σ 9 10) S rfl rfl rfl (List.mem_of_getElem? (i := 8) rfl) rfl ?_
  refine mi_s_if2 (t := 21) rfl rfl rfl (by unfold mi_R; omega) (by unfold mi_R; omega) (fun c => absurd (show (mi_sF σ 9 10) ≤ a from c) (by omega)) (fun _ => ?_)
  refine mi_wp_p (pc' := 13) (st' := [.ref 9]) rfl rfl rfl ?_
  refine mi_s_gr S rfl rfl rfl (List.mem_of_getElem? (i := 21) rfl) ?_
  refine mi_wp_p (pc' := 17) (st' := [.int (Int32.ofInt a), .ref 15]) rfl rfl rfl ?_
  refine mi_s_ald (x := mi_sA σ 15 a) S rfl rfl (List.mem_of_getElem? (i := 9) rfl) (by decide) (by omega) (by omega) rfl ?_
  refine mi_wp_p (pc' := 22) rfl rfl rfl ?_
  exact mi_s_ret S fr rfl rfl rfl (mi_ret_i rfl) ⟨_, rfl, ⟨rfl, rfl⟩⟩
/-- the cells behind make -/
def ty_mk (σ : mi_S) (g a b c : Int) : mi_S := (mi_uA (mi_uA (mi_uA (mi_uA (mi_uA (mi_uA (mi_uA (mi_uF σ 9 8 (mi_sF σ 9 8 + 1)) 10 (mi_sF σ 9 8) (g)) 12 (mi_sF σ 9 8) (mi_sF σ 9 8)) 13 (mi_sF σ 9 8) (0)) 14 (mi_sF σ 9 8) (0)) 11 ((mi_sF σ 9 8) * 3) (a)) 11 (((mi_sF σ 9 8) * 3) + 1) (b)) 11 (((mi_sF σ 9 8) * 3) + 2) (c))
theorem ty_make {X : mi_X} {d : Nat} {σ : mi_S} {g a b c : Int} (h0 : 0 < mi_sF σ 9 8) (h1 : mi_sF σ 9 8 < 512) (h2 : mi_sF σ 9 7 = 512) : mi_Ci X d mi_M136 [(0, .ref 9), (1, .int (Int32.ofInt g)), (2, .int (Int32.ofInt a)), (3, .int (Int32.ofInt b)), (4, .int (Int32.ofInt c))] σ (fun x σ' => x = mi_sF σ 9 8 ∧ σ' = ty_mk σ g a b c) := by
  intro h S
  have fr := mi_Fm_rf h
  refine mi_wp_p (pc' := 1) (st' := [.ref 9]) rfl rfl rfl ?_
  refine mi_s_gf (x := mi_sF σ 9 8) S rfl rfl rfl (List.mem_of_getElem? (i := 6) rfl) rfl ?_
  refine mi_wp_p (pc' := 5) (st' := [.ref 9, .int (Int32.ofInt (mi_sF σ 9 8))]) rfl rfl rfl ?_
  refine mi_s_gf (x := mi_sF σ 9 7) S rfl rfl rfl (List.mem_of_getElem? (i := 5) rfl) rfl ?_
  refine mi_s_if2 (t := 137) rfl rfl rfl (by unfold mi_R; omega) (by unfold mi_R; omega) (fun _ => ?_) (fun c => absurd (show (mi_sF σ 9 8) < (mi_sF σ 9 7) by omega) c)
  refine mi_wp_p (pc' := 138) (st' := [.ref 9]) rfl rfl rfl ?_
  refine mi_s_gf (x := mi_sF σ 9 8) S rfl rfl rfl (List.mem_of_getElem? (i := 6) rfl) rfl ?_
  refine mi_wp_p (pc' := 142) (st' := [.ref 9, .int (Int32.ofInt (mi_sF σ 9 8))]) rfl rfl rfl ?_
  refine mi_s_gf (x := mi_sF σ 9 7) S rfl rfl rfl (List.mem_of_getElem? (i := 5) rfl) rfl ?_
  refine mi_s_if2 (t := 150) rfl rfl rfl (by unfold mi_R; omega) (by unfold mi_R; omega) (fun _ => ?_) (fun c => absurd (show (mi_sF σ 9 8) < (mi_sF σ 9 7) by omega) c)
  refine mi_wp_p (pc' := 151) (st' := [.ref 9]) rfl rfl rfl ?_
  refine mi_s_gf (x := mi_sF σ 9 8) S rfl rfl rfl (List.mem_of_getElem? (i := 6) rfl) rfl ?_
  refine mi_wp_p (pc' := 156) (l' := [(5, .int (Int32.ofInt (mi_sF σ 9 8))), (0, .ref 9), (1, .int (Int32.ofInt g)), (2, .int (Int32.ofInt a)), (3, .int (Int32.ofInt b)), (4, .int (Int32.ofInt c))]) (st' := []) rfl rfl rfl ?_
  refine mi_wp_p (pc' := 157) (st' := [.ref 9]) rfl rfl rfl ?_
  refine mi_wp_p (pc' := 158) (st' := [.ref 9, .ref 9]) rfl rfl rfl ?_
  refine mi_s_gf (x := mi_sF σ 9 8) S rfl rfl rfl (List.mem_of_getElem? (i := 6) rfl) rfl ?_
  refine mi_wp_p (pc' := 162) (st' := [.int (Int32.ofInt 1), .int (Int32.ofInt (mi_sF σ 9 8)), .ref 9]) rfl rfl rfl ?_
  refine mi_s_add rfl rfl ?_
  refine mi_s_pf S rfl rfl rfl (List.mem_of_getElem? (i := 6) rfl) (by decide) mi_fit_int (Or.inl rfl) ?_
  intro h36 S f
  replace fr := mi_Fm_tr fr f
  refine mi_wp_p (pc' := 167) (st' := [.ref 9]) rfl rfl rfl ?_
  refine mi_s_gr S rfl rfl rfl (List.mem_of_getElem? (i := 16) rfl) ?_
  refine mi_wp_p (pc' := 172) (st' := [.int (Int32.ofInt (mi_sF σ 9 8)), .ref 10]) rfl rfl rfl ?_
  refine mi_wp_p (pc' := 173) (st' := [.int (Int32.ofInt g), .int (Int32.ofInt (mi_sF σ 9 8)), .ref 10]) rfl rfl rfl ?_
  refine mi_s_ast S rfl rfl (List.mem_of_getElem? (i := 4) rfl) (by decide) (by decide) (by omega) (by omega) ?_
  intro h37 S f
  replace fr := mi_Fm_tr fr f
  refine mi_wp_p (pc' := 175) (st' := [.ref 9]) rfl rfl rfl ?_
  refine mi_s_gr S rfl rfl rfl (List.mem_of_getElem? (i := 18) rfl) ?_
  refine mi_wp_p (pc' := 180) (st' := [.int (Int32.ofInt (mi_sF σ 9 8)), .ref 12]) rfl rfl rfl ?_
  refine mi_wp_p (pc' := 182) (st' := [.int (Int32.ofInt (mi_sF σ 9 8)), .int (Int32.ofInt (mi_sF σ 9 8)), .ref 12]) rfl rfl rfl ?_
  refine mi_s_ast S rfl rfl (List.mem_of_getElem? (i := 6) rfl) (by decide) (by decide) (by omega) (by omega) ?_
  intro h38 S f
  replace fr := mi_Fm_tr fr f
  refine mi_wp_p (pc' := 184) (st' := [.ref 9]) rfl rfl rfl ?_
  refine mi_s_gr S rfl rfl rfl (List.mem_of_getElem? (i := 19) rfl) ?_
  refine mi_wp_p (pc' := 189) (st' := [.int (Int32.ofInt (mi_sF σ 9 8)), .ref 13]) rfl rfl rfl ?_
  refine mi_wp_p (pc' := 190) (st' := [.int (Int32.ofInt 0), .int (Int32.ofInt (mi_sF σ 9 8)), .ref 13]) rfl rfl rfl ?_
  refine mi_s_ast S rfl rfl (List.mem_of_getElem? (i := 7) rfl) (by decide) (by decide) (by omega) (by omega) ?_
  intro h39 S f
  replace fr := mi_Fm_tr fr f
  refine mi_wp_p (pc' := 192) (st' := [.ref 9]) rfl rfl rfl ?_
  refine mi_s_gr S rfl rfl rfl (List.mem_of_getElem? (i := 20) rfl) ?_
  refine mi_wp_p (pc' := 197) (st' := [.int (Int32.ofInt (mi_sF σ 9 8)), .ref 14]) rfl rfl rfl ?_
  refine mi_wp_p (pc' := 198) (st' := [.int (Int32.ofInt 0), .int (Int32.ofInt (mi_sF σ 9 8)), .ref 14]) rfl rfl rfl ?_
  refine mi_s_ast S rfl rfl (List.mem_of_getElem? (i := 8) rfl) (by decide) (by decide) (by omega) (by omega) ?_
  intro h40 S f
  replace fr := mi_Fm_tr fr f
  refine mi_wp_p (pc' := 200) (st' := [.ref 9]) rfl rfl rfl ?_
  refine mi_s_gr S rfl rfl rfl (List.mem_of_getElem? (i := 17) rfl) ?_
  refine mi_wp_p (pc' := 205) (st' := [.int (Int32.ofInt (mi_sF σ 9 8)), .ref 11]) rfl rfl rfl ?_
  refine mi_wp_p (pc' := 206) (st' := [.int (Int32.ofInt 3), .int (Int32.ofInt (mi_sF σ 9 8)), .ref 11]) rfl rfl rfl ?_
  refine mi_s_mul rfl rfl ?_
  refine mi_wp_p (pc' := 208) (st' := [.int (Int32.ofInt a), .int (Int32.ofInt ((mi_sF σ 9 8) * 3)), .ref 11]) rfl rfl rfl ?_
  refine mi_s_ast S rfl rfl (List.mem_of_getElem? (i := 5) rfl) (by decide) (by decide) (by omega) (by omega) ?_
  intro h41 S f
  replace fr := mi_Fm_tr fr f
  refine mi_wp_p (pc' := 210) (st' := [.ref 9]) rfl rfl rfl ?_
  refine mi_s_gr S rfl rfl rfl (List.mem_of_getElem? (i := 17) rfl) ?_
  refine mi_wp_p (pc' := 215) (st' := [.int (Int32.ofInt (mi_sF σ 9 8)), .ref 11]) rfl rfl rfl ?_
  refine mi_wp_p (pc' := 216) (st' := [.int (Int32.ofInt 3), .int (Int32.ofInt (mi_sF σ 9 8)), .ref 11]) rfl rfl rfl ?_
  refine mi_s_mul rfl rfl ?_
  refine mi_wp_p (pc' := 218) (st' := [.int (Int32.ofInt 1), .int (Int32.ofInt ((mi_sF σ 9 8) * 3)), .ref 11]) rfl rfl rfl ?_
  refine mi_s_add rfl rfl ?_
  refine mi_wp_p (pc' := 220) (st' := [.int (Int32.ofInt b), .int (Int32.ofInt (((mi_sF σ 9 8) * 3) + 1)), .ref 11]) rfl rfl rfl ?_
  refine mi_s_ast S rfl rfl (List.mem_of_getElem? (i := 5) rfl) (by decide) (by decide) (by omega) (by omega) ?_
  intro h42 S f
  replace fr := mi_Fm_tr fr f
  refine mi_wp_p (pc' := 222) (st' := [.ref 9]) rfl rfl rfl ?_
  refine mi_s_gr S rfl rfl rfl (List.mem_of_getElem? (i := 17) rfl) ?_
  refine mi_wp_p (pc' := 227) (st' := [.int (Int32.ofInt (mi_sF σ 9 8)), .ref 11]) rfl rfl rfl ?_
  refine mi_wp_p (pc' := 228) (st' := [.int (Int32.ofInt 3), .int (Int32.ofInt (mi_sF σ 9 8)), .ref 11]) rfl rfl rfl ?_
  refine mi_s_mul rfl rfl ?_
  refine mi_wp_p (pc' := 230) (st' := [.int (Int32.ofInt 2), .int (Int32.ofInt ((mi_sF σ 9 8) * 3)), .ref 11]) rfl rfl rfl ?_
  refine mi_s_add rfl rfl ?_
  refine mi_wp_p (pc' := 233) (st' := [.int (Int32.ofInt c), .int (Int32.ofInt (((mi_sF σ 9 8) * 3) + 2)), .ref 11]) rfl rfl rfl ?_
  refine mi_s_ast S rfl rfl (List.mem_of_getElem? (i := 5) rfl) (by decide) (by decide) (by omega) (by omega) ?_
  intro h43 S f
  replace fr := mi_Fm_tr fr f
  refine mi_wp_p (pc' := 236) (st' := [.int (Int32.ofInt (mi_sF σ 9 8))]) rfl rfl rfl ?_
  exact mi_s_ret S fr rfl rfl rfl (mi_ret_i rfl) ⟨_, rfl, ⟨rfl, rfl⟩⟩
theorem ty_unknown {X : mi_X} {σ : mi_S} {d : Nat}  (h0 : 0 < mi_sF σ 9 8) (h1 : mi_sF σ 9 8 < 512) (h2 : mi_sF σ 9 7 = 512) : mi_Ci X (d + 1) mi_M148 [(0, .ref 9)] σ (fun x σ' => x = mi_sF σ 9 8 ∧ σ' = ty_mk σ 3 0 0 0) := by
  intro h S
  have fr := mi_Fm_rf h
  refine mi_wp_p (pc' := 1) (st' := [.ref 9]) rfl rfl rfl ?_
  refine mi_wp_p (pc' := 2) (st' := [.int (Int32.ofInt 3), .ref 9]) rfl rfl rfl ?_
  refine mi_wp_p (pc' := 3) (st' := [.int (Int32.ofInt 0), .int (Int32.ofInt 3), .ref 9]) rfl rfl rfl ?_
  refine mi_wp_p (pc' := 4) (st' := [.int (Int32.ofInt 0), .int (Int32.ofInt 0), .int (Int32.ofInt 3), .ref 9]) rfl rfl rfl ?_
  refine mi_wp_p (pc' := 5) (st' := [.int (Int32.ofInt 0), .int (Int32.ofInt 0), .int (Int32.ofInt 0), .int (Int32.ofInt 3), .ref 9]) rfl rfl rfl ?_
  refine mi_s_ci rfl rfl rfl rfl rfl rfl (mi_cal_v2 (np := 4) (args := [.ref 9, .int (Int32.ofInt 3), .int (Int32.ofInt 0), .int (Int32.ofInt 0), .int (Int32.ofInt 0)]) (rest := []) rfl rfl rfl rfl rfl (Nat.le_of_ble_eq_true rfl) rfl rfl (Nat.le_of_ble_eq_true rfl) (mi_rcS S (List.mem_of_getElem? (i := 5) rfl))) (Nat.le_of_ble_eq_true rfl) S (ty_make h0 h1 h2) ?_
  intro x hh σ1 S f P
  obtain ⟨e1, e2⟩ := P
  rw [e2] at S
  rw [e1]
  clear e1 e2
  replace fr := mi_Fm_tr fr f
  exact mi_s_ret S fr rfl rfl rfl (mi_ret_i rfl) ⟨_, rfl, ⟨rfl, rfl⟩⟩
theorem ty_mark {X : mi_X} {σ : mi_S} {d : Nat}  (h0 : 0 < mi_sF σ 9 8) (h1 : mi_sF σ 9 8 < 512) (h2 : mi_sF σ 9 7 = 512) : mi_Ci X (d + 1) mi_M137 [(0, .ref 9)] σ (fun x σ' => x = mi_sF σ 9 8 ∧ σ' = ty_mk σ 4 0 0 0) := by
  intro h S
  have fr := mi_Fm_rf h
  refine mi_wp_p (pc' := 1) (st' := [.ref 9]) rfl rfl rfl ?_
  refine mi_wp_p (pc' := 2) (st' := [.int (Int32.ofInt 4), .ref 9]) rfl rfl rfl ?_
  refine mi_wp_p (pc' := 3) (st' := [.int (Int32.ofInt 0), .int (Int32.ofInt 4), .ref 9]) rfl rfl rfl ?_
  refine mi_wp_p (pc' := 4) (st' := [.int (Int32.ofInt 0), .int (Int32.ofInt 0), .int (Int32.ofInt 4), .ref 9]) rfl rfl rfl ?_
  refine mi_wp_p (pc' := 5) (st' := [.int (Int32.ofInt 0), .int (Int32.ofInt 0), .int (Int32.ofInt 0), .int (Int32.ofInt 4), .ref 9]) rfl rfl rfl ?_
  refine mi_s_ci rfl rfl rfl rfl rfl rfl (mi_cal_v2 (np := 4) (args := [.ref 9, .int (Int32.ofInt 4), .int (Int32.ofInt 0), .int (Int32.ofInt 0), .int (Int32.ofInt 0)]) (rest := []) rfl rfl rfl rfl rfl (Nat.le_of_ble_eq_true rfl) rfl rfl (Nat.le_of_ble_eq_true rfl) (mi_rcS S (List.mem_of_getElem? (i := 5) rfl))) (Nat.le_of_ble_eq_true rfl) S (ty_make h0 h1 h2) ?_
  intro x hh σ1 S f P
  obtain ⟨e1, e2⟩ := P
  rw [e2] at S
  rw [e1]
  clear e1 e2
  replace fr := mi_Fm_tr fr f
  exact mi_s_ret S fr rfl rfl rfl (mi_ret_i rfl) ⟨_, rfl, ⟨rfl, rfl⟩⟩
theorem ty_pair {X : mi_X} {σ : mi_S} {d : Nat} {a b : Int} (h0 : 0 < mi_sF σ 9 8) (h1 : mi_sF σ 9 8 < 512) (h2 : mi_sF σ 9 7 = 512) : mi_Ci X (d + 1) mi_M142 [(0, .ref 9), (1, .int (Int32.ofInt a)), (2, .int (Int32.ofInt b))] σ (fun x σ' => x = mi_sF σ 9 8 ∧ σ' = ty_mk σ 5 a b 0) := by
  intro h S
  have fr := mi_Fm_rf h
  refine mi_wp_p (pc' := 1) (st' := [.ref 9]) rfl rfl rfl ?_
  refine mi_wp_p (pc' := 2) (st' := [.int (Int32.ofInt 5), .ref 9]) rfl rfl rfl ?_
  refine mi_wp_p (pc' := 3) (st' := [.int (Int32.ofInt a), .int (Int32.ofInt 5), .ref 9]) rfl rfl rfl ?_
  refine mi_wp_p (pc' := 4) (st' := [.int (Int32.ofInt b), .int (Int32.ofInt a), .int (Int32.ofInt 5), .ref 9]) rfl rfl rfl ?_
  refine mi_wp_p (pc' := 5) (st' := [.int (Int32.ofInt 0), .int (Int32.ofInt b), .int (Int32.ofInt a), .int (Int32.ofInt 5), .ref 9]) rfl rfl rfl ?_
  refine mi_s_ci rfl rfl rfl rfl rfl rfl (mi_cal_v2 (np := 4) (args := [.ref 9, .int (Int32.ofInt 5), .int (Int32.ofInt a), .int (Int32.ofInt b), .int (Int32.ofInt 0)]) (rest := []) rfl rfl rfl rfl rfl (Nat.le_of_ble_eq_true rfl) rfl rfl (Nat.le_of_ble_eq_true rfl) (mi_rcS S (List.mem_of_getElem? (i := 5) rfl))) (Nat.le_of_ble_eq_true rfl) S (ty_make h0 h1 h2) ?_
  intro x hh σ1 S f P
  obtain ⟨e1, e2⟩ := P
  rw [e2] at S
  rw [e1]
  clear e1 e2
  replace fr := mi_Fm_tr fr f
  exact mi_s_ret S fr rfl rfl rfl (mi_ret_i rfl) ⟨_, rfl, ⟨rfl, rfl⟩⟩
theorem ty_function {X : mi_X} {σ : mi_S} {d : Nat} {a b : Int} (h0 : 0 < mi_sF σ 9 8) (h1 : mi_sF σ 9 8 < 512) (h2 : mi_sF σ 9 7 = 512) : mi_Ci X (d + 1) mi_M129 [(0, .ref 9), (1, .int (Int32.ofInt a)), (2, .int (Int32.ofInt b))] σ (fun x σ' => x = mi_sF σ 9 8 ∧ σ' = ty_mk σ 6 a b 0) := by
  intro h S
  have fr := mi_Fm_rf h
  refine mi_wp_p (pc' := 1) (st' := [.ref 9]) rfl rfl rfl ?_
  refine mi_s_k (pc' := 3) (e := 6) rfl rfl rfl (by decide +kernel) ?_
  refine mi_wp_p (pc' := 4) (st' := [.int (Int32.ofInt a), .int (Int32.ofInt 6), .ref 9]) rfl rfl rfl ?_
  refine mi_wp_p (pc' := 5) (st' := [.int (Int32.ofInt b), .int (Int32.ofInt a), .int (Int32.ofInt 6), .ref 9]) rfl rfl rfl ?_
  refine mi_wp_p (pc' := 6) (st' := [.int (Int32.ofInt 0), .int (Int32.ofInt b), .int (Int32.ofInt a), .int (Int32.ofInt 6), .ref 9]) rfl rfl rfl ?_
  refine mi_s_ci rfl rfl rfl rfl rfl rfl (mi_cal_v2 (np := 4) (args := [.ref 9, .int (Int32.ofInt 6), .int (Int32.ofInt a), .int (Int32.ofInt b), .int (Int32.ofInt 0)]) (rest := []) rfl rfl rfl rfl rfl (Nat.le_of_ble_eq_true rfl) rfl rfl (Nat.le_of_ble_eq_true rfl) (mi_rcS S (List.mem_of_getElem? (i := 5) rfl))) (Nat.le_of_ble_eq_true rfl) S (ty_make h0 h1 h2) ?_
  intro x hh σ1 S f P
  obtain ⟨e1, e2⟩ := P
  rw [e2] at S
  rw [e1]
  clear e1 e2
  replace fr := mi_Fm_tr fr f
  exact mi_s_ret S fr rfl rfl rfl (mi_ret_i rfl) ⟨_, rfl, ⟨rfl, rfl⟩⟩
theorem ty_V_r {σ : mi_S} {ρ t : Int → Int} {n : Int} (V : ty_V σ ρ t) (h0 : 0 ≤ n) (h1 : n < mi_sF σ 9 8) : 0 ≤ ρ n ∧ ρ n < mi_sF σ 9 8 ∧ mi_sF σ 9 8 ≤ 512 := by
  obtain ⟨v0, v1, v2, v3⟩ := V
  by_cases hp : 0 < n
  · obtain ⟨-, -, g3, -⟩ := v3 n hp h1
    omega
  · obtain rfl : n = 0 := by omega
    rw [v2]
    omega
theorem ty_tagOf {X : mi_X} {σ : mi_S} {d : Nat} {ρ t : Int → Int} {nd : Int} (V : ty_V σ ρ t) (hz : 0 ≤ nd) (h1 : nd < mi_sF σ 9 8) : mi_Ci X (d + 1) mi_M146 [(0, .ref 9), (1, .int (Int32.ofInt nd))] σ (fun x σ' => x = mi_sA σ 10 (ρ nd) ∧ ty_V σ' ρ t ∧ mi_Ag [12] σ σ') := by
  intro h S
  have fr := mi_Fm_rf h
  have r0 := ty_V_r V hz h1
  refine mi_wp_p (pc' := 1) (st' := [.ref 9]) rfl rfl rfl ?_
  refine mi_s_gr S rfl rfl rfl (List.mem_of_getElem? (i := 16) rfl) ?_
  refine mi_wp_p (pc' := 5) (st' := [.ref 9, .ref 10]) rfl rfl rfl ?_
  refine mi_wp_p (pc' := 6) (st' := [.int (Int32.ofInt nd), .ref 9, .ref 10]) rfl rfl rfl ?_
  refine mi_s_ci rfl rfl rfl rfl rfl rfl (mi_cal_v2 (np := 1) (args := [.ref 9, .int (Int32.ofInt nd)]) (rest := [.ref 10]) rfl rfl rfl rfl rfl (Nat.le_of_ble_eq_true rfl) rfl rfl (Nat.le_of_ble_eq_true rfl) (mi_rcS S (List.mem_of_getElem? (i := 5) rfl))) (Nat.le_of_ble_eq_true rfl) S (ty_find V hz h1) ?_
  intro x hh σ1 S f P
  obtain ⟨e1, V1, G1⟩ := P
  rw [e1]
  clear e1
  replace fr := mi_Fm_tr fr f
  refine mi_s_ald (x := mi_sA σ1 10 (ρ nd)) S rfl rfl (List.mem_of_getElem? (i := 4) rfl) (by decide) (by omega) (by omega) rfl ?_
  exact mi_s_ret S fr rfl rfl rfl (mi_ret_i rfl) ⟨_, rfl, G1.2.2 10 _ (by decide), V1, G1⟩
theorem ty_noteOf {X : mi_X} {σ : mi_S} {d : Nat} {ρ t : Int → Int} {nd : Int} (V : ty_V σ ρ t) (hz : 0 ≤ nd) (h1 : nd < mi_sF σ 9 8) : mi_Ci X (d + 1) mi_M140 [(0, .ref 9), (1, .int (Int32.ofInt nd))] σ (fun x σ' => x = mi_sA σ 14 (ρ nd) ∧ ty_V σ' ρ t ∧ mi_Ag [12] σ σ') := by
  intro h S
  have fr := mi_Fm_rf h
  have r0 := ty_V_r V hz h1
  refine mi_wp_p (pc' := 1) (st' := [.ref 9]) rfl rfl rfl ?_
  refine mi_s_gr S rfl rfl rfl (List.mem_of_getElem? (i := 20) rfl) ?_
  refine mi_wp_p (pc' := 5) (st' := [.ref 9, .ref 14]) rfl rfl rfl ?_
  refine mi_wp_p (pc' := 6) (st' := [.int (Int32.ofInt nd), .ref 9, .ref 14]) rfl rfl rfl ?_
  refine mi_s_ci rfl rfl rfl rfl rfl rfl (mi_cal_v2 (np := 1) (args := [.ref 9, .int (Int32.ofInt nd)]) (rest := [.ref 14]) rfl rfl rfl rfl rfl (Nat.le_of_ble_eq_true rfl) rfl rfl (Nat.le_of_ble_eq_true rfl) (mi_rcS S (List.mem_of_getElem? (i := 5) rfl))) (Nat.le_of_ble_eq_true rfl) S (ty_find V hz h1) ?_
  intro x hh σ1 S f P
  obtain ⟨e1, V1, G1⟩ := P
  rw [e1]
  clear e1
  replace fr := mi_Fm_tr fr f
  refine mi_s_ald (x := mi_sA σ1 14 (ρ nd)) S rfl rfl (List.mem_of_getElem? (i := 8) rfl) (by decide) (by omega) (by omega) rfl ?_
  exact mi_s_ret S fr rfl rfl rfl (mi_ret_i rfl) ⟨_, rfl, G1.2.2 14 _ (by decide), V1, G1⟩
