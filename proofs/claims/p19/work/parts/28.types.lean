/-! ===== Types: small methods (printed by wip/gen/p_types.py) ===== -/
theorem ty1_keep {X : mi_X} {d : Nat} {σ : mi_Sg}  : mi_Cv X d mi_M134 [(0, .ref 9)] σ (fun σ' => σ' = mi_uF σ 9 9 (mi_sF σ 9 8)) := by
  intro h S
  have fr := mi_Fm_rf h
  refine mi_wp_p (pc' := 1) (st' := [.ref 9]) rfl rfl rfl ?_
  refine mi_wp_p (pc' := 2) (st' := [.ref 9, .ref 9]) rfl rfl rfl ?_
  refine mi_s_gf (x := mi_sF σ 9 8) S rfl rfl rfl (List.mem_of_getElem? (i := 6) rfl) rfl ?_
  refine mi_s_pf S rfl rfl rfl (List.mem_of_getElem? (i := 7) rfl) (by decide) mi_fit_int (Or.inl rfl) ?_
  intro h1 S f
  replace fr := mi_Fm_tr fr f
  exact mi_s_ret S fr rfl rfl rfl rfl ⟨rfl, rfl⟩
theorem ty1_dropLoose {X : mi_X} {d : Nat} {σ : mi_Sg}  : mi_Cv X d mi_M124 [(0, .ref 9)] σ (fun σ' => σ' = mi_uF σ 9 8 (mi_sF σ 9 9)) := by
  intro h S
  have fr := mi_Fm_rf h
  refine mi_wp_p (pc' := 1) (st' := [.ref 9]) rfl rfl rfl ?_
  refine mi_wp_p (pc' := 2) (st' := [.ref 9, .ref 9]) rfl rfl rfl ?_
  refine mi_s_gf (x := mi_sF σ 9 9) S rfl rfl rfl (List.mem_of_getElem? (i := 7) rfl) rfl ?_
  refine mi_s_pf S rfl rfl rfl (List.mem_of_getElem? (i := 6) rfl) (by decide) mi_fit_int (Or.inl rfl) ?_
  intro h2 S f
  replace fr := mi_Fm_tr fr f
  exact mi_s_ret S fr rfl rfl rfl rfl ⟨rfl, rfl⟩
theorem ty1_cut {X : mi_X} {d : Nat} {σ : mi_Sg} {a : Int} (h0 : a = 13) (h1 : 13 ≤ mi_sF σ 9 8) (h2 : mi_sF σ 9 8 ≤ 512) : mi_Cv X d mi_M123 [(0, .ref 9), (1, .int (Int32.ofInt a))] σ (fun σ' => σ' = mi_uF (mi_uF σ 9 8 a) 9 9 a) := by
  intro h S
  have fr := mi_Fm_rf h
  refine mi_wp_p (pc' := 1) (st' := [.int (Int32.ofInt a)]) rfl rfl rfl ?_
  refine mi_wp_p (pc' := 2) (st' := [.int (Int32.ofInt 2), .int (Int32.ofInt a)]) rfl rfl rfl ?_
  refine mi_s_if2 (t := 23) rfl rfl rfl (by unfold mi_R; omega) (by unfold mi_R; omega) (fun hc_ => absurd (show a ≤ 2 from hc_) (by omega)) (fun _ => ?_)
  refine mi_wp_p (pc' := 6) (st' := [.int (Int32.ofInt a)]) rfl rfl rfl ?_
  refine mi_wp_p (pc' := 7) (st' := [.ref 9, .int (Int32.ofInt a)]) rfl rfl rfl ?_
  refine mi_s_gf (x := mi_sF σ 9 8) S rfl rfl rfl (List.mem_of_getElem? (i := 6) rfl) rfl ?_
  refine mi_s_if2 (t := 23) rfl rfl rfl (by unfold mi_R; omega) (by unfold mi_R; omega) (fun hc_ => absurd (show (mi_sF σ 9 8) < a from hc_) (by omega)) (fun _ => ?_)
  refine mi_wp_p (pc' := 14) (st' := [.ref 9]) rfl rfl rfl ?_
  refine mi_wp_p (pc' := 15) (st' := [.int (Int32.ofInt a), .ref 9]) rfl rfl rfl ?_
  refine mi_s_pf S rfl rfl rfl (List.mem_of_getElem? (i := 6) rfl) (by decide) mi_fit_int (Or.inl rfl) ?_
  intro h3 S f
  replace fr := mi_Fm_tr fr f
  refine mi_wp_p (pc' := 19) (st' := [.ref 9]) rfl rfl rfl ?_
  refine mi_wp_p (pc' := 20) (st' := [.int (Int32.ofInt a), .ref 9]) rfl rfl rfl ?_
  refine mi_s_pf S rfl rfl rfl (List.mem_of_getElem? (i := 7) rfl) (by decide) mi_fit_int (Or.inl rfl) ?_
  intro h4 S f
  replace fr := mi_Fm_tr fr f
  exact mi_s_ret S fr rfl rfl rfl rfl ⟨rfl, rfl⟩
/-- the cells behind make -/
def ty_mk (σ : mi_Sg) (g a b c : Int) : mi_Sg := (mi_uA (mi_uA (mi_uA (mi_uA (mi_uA (mi_uA (mi_uA (mi_uF σ 9 8 (mi_sF σ 9 8 + 1)) 10 (mi_sF σ 9 8) (g)) 12 (mi_sF σ 9 8) (mi_sF σ 9 8)) 13 (mi_sF σ 9 8) (0)) 14 (mi_sF σ 9 8) (0)) 11 ((mi_sF σ 9 8) * 3) (a)) 11 (((mi_sF σ 9 8) * 3) + 1) (b)) 11 (((mi_sF σ 9 8) * 3) + 2) (c))
theorem ty1_make {X : mi_X} {d : Nat} {σ : mi_Sg} {g a b c : Int} (h0 : 0 < mi_sF σ 9 8) (h1 : mi_sF σ 9 8 < 512) (h2 : mi_sF σ 9 7 = 512) : mi_Ci X d mi_M136 [(0, .ref 9), (1, .int (Int32.ofInt g)), (2, .int (Int32.ofInt a)), (3, .int (Int32.ofInt b)), (4, .int (Int32.ofInt c))] σ (fun x σ' => x = mi_sF σ 9 8 ∧ σ' = ty_mk σ g a b c) := by
  intro h S
  have fr := mi_Fm_rf h
  refine mi_wp_p (pc' := 1) (st' := [.ref 9]) rfl rfl rfl ?_
  refine mi_s_gf (x := mi_sF σ 9 8) S rfl rfl rfl (List.mem_of_getElem? (i := 6) rfl) rfl ?_
  refine mi_wp_p (pc' := 5) (st' := [.ref 9, .int (Int32.ofInt (mi_sF σ 9 8))]) rfl rfl rfl ?_
  refine mi_s_gf (x := mi_sF σ 9 7) S rfl rfl rfl (List.mem_of_getElem? (i := 5) rfl) rfl ?_
  refine mi_s_if2 (t := 137) rfl rfl rfl (by unfold mi_R; omega) (by unfold mi_R; omega) (fun _ => ?_) (fun hc_ => absurd (show (mi_sF σ 9 8) < (mi_sF σ 9 7) by omega) hc_)
  refine mi_wp_p (pc' := 138) (st' := [.ref 9]) rfl rfl rfl ?_
  refine mi_s_gf (x := mi_sF σ 9 8) S rfl rfl rfl (List.mem_of_getElem? (i := 6) rfl) rfl ?_
  refine mi_wp_p (pc' := 142) (st' := [.ref 9, .int (Int32.ofInt (mi_sF σ 9 8))]) rfl rfl rfl ?_
  refine mi_s_gf (x := mi_sF σ 9 7) S rfl rfl rfl (List.mem_of_getElem? (i := 5) rfl) rfl ?_
  refine mi_s_if2 (t := 150) rfl rfl rfl (by unfold mi_R; omega) (by unfold mi_R; omega) (fun _ => ?_) (fun hc_ => absurd (show (mi_sF σ 9 8) < (mi_sF σ 9 7) by omega) hc_)
  refine mi_wp_p (pc' := 151) (st' := [.ref 9]) rfl rfl rfl ?_
  refine mi_s_gf (x := mi_sF σ 9 8) S rfl rfl rfl (List.mem_of_getElem? (i := 6) rfl) rfl ?_
  refine mi_wp_p (pc' := 156) (l' := [(5, .int (Int32.ofInt (mi_sF σ 9 8))), (0, .ref 9), (1, .int (Int32.ofInt g)), (2, .int (Int32.ofInt a)), (3, .int (Int32.ofInt b)), (4, .int (Int32.ofInt c))]) (st' := []) rfl rfl rfl ?_
  refine mi_wp_p (pc' := 157) (st' := [.ref 9]) rfl rfl rfl ?_
  refine mi_wp_p (pc' := 158) (st' := [.ref 9, .ref 9]) rfl rfl rfl ?_
  refine mi_s_gf (x := mi_sF σ 9 8) S rfl rfl rfl (List.mem_of_getElem? (i := 6) rfl) rfl ?_
  refine mi_wp_p (pc' := 162) (st' := [.int (Int32.ofInt 1), .int (Int32.ofInt (mi_sF σ 9 8)), .ref 9]) rfl rfl rfl ?_
  refine mi_s_add rfl rfl ?_
  refine mi_s_pf S rfl rfl rfl (List.mem_of_getElem? (i := 6) rfl) (by decide) mi_fit_int (Or.inl rfl) ?_
  intro h5 S f
  replace fr := mi_Fm_tr fr f
  refine mi_wp_p (pc' := 167) (st' := [.ref 9]) rfl rfl rfl ?_
  refine mi_s_gr S rfl rfl rfl (List.mem_of_getElem? (i := 16) rfl) ?_
  refine mi_wp_p (pc' := 172) (st' := [.int (Int32.ofInt (mi_sF σ 9 8)), .ref 10]) rfl rfl rfl ?_
  refine mi_wp_p (pc' := 173) (st' := [.int (Int32.ofInt g), .int (Int32.ofInt (mi_sF σ 9 8)), .ref 10]) rfl rfl rfl ?_
  refine mi_s_ast S rfl rfl (List.mem_of_getElem? (i := 4) rfl) (by decide) (by decide) (by omega) (by omega) ?_
  intro h6 S f
  replace fr := mi_Fm_tr fr f
  refine mi_wp_p (pc' := 175) (st' := [.ref 9]) rfl rfl rfl ?_
  refine mi_s_gr S rfl rfl rfl (List.mem_of_getElem? (i := 18) rfl) ?_
  refine mi_wp_p (pc' := 180) (st' := [.int (Int32.ofInt (mi_sF σ 9 8)), .ref 12]) rfl rfl rfl ?_
  refine mi_wp_p (pc' := 182) (st' := [.int (Int32.ofInt (mi_sF σ 9 8)), .int (Int32.ofInt (mi_sF σ 9 8)), .ref 12]) rfl rfl rfl ?_
  refine mi_s_ast S rfl rfl (List.mem_of_getElem? (i := 6) rfl) (by decide) (by decide) (by omega) (by omega) ?_
  intro h7 S f
  replace fr := mi_Fm_tr fr f
  refine mi_wp_p (pc' := 184) (st' := [.ref 9]) rfl rfl rfl ?_
  refine mi_s_gr S rfl rfl rfl (List.mem_of_getElem? (i := 19) rfl) ?_
  refine mi_wp_p (pc' := 189) (st' := [.int (Int32.ofInt (mi_sF σ 9 8)), .ref 13]) rfl rfl rfl ?_
  refine mi_wp_p (pc' := 190) (st' := [.int (Int32.ofInt 0), .int (Int32.ofInt (mi_sF σ 9 8)), .ref 13]) rfl rfl rfl ?_
  refine mi_s_ast S rfl rfl (List.mem_of_getElem? (i := 7) rfl) (by decide) (by decide) (by omega) (by omega) ?_
  intro h8 S f
  replace fr := mi_Fm_tr fr f
  refine mi_wp_p (pc' := 192) (st' := [.ref 9]) rfl rfl rfl ?_
  refine mi_s_gr S rfl rfl rfl (List.mem_of_getElem? (i := 20) rfl) ?_
  refine mi_wp_p (pc' := 197) (st' := [.int (Int32.ofInt (mi_sF σ 9 8)), .ref 14]) rfl rfl rfl ?_
  refine mi_wp_p (pc' := 198) (st' := [.int (Int32.ofInt 0), .int (Int32.ofInt (mi_sF σ 9 8)), .ref 14]) rfl rfl rfl ?_
  refine mi_s_ast S rfl rfl (List.mem_of_getElem? (i := 8) rfl) (by decide) (by decide) (by omega) (by omega) ?_
  intro h9 S f
  replace fr := mi_Fm_tr fr f
  refine mi_wp_p (pc' := 200) (st' := [.ref 9]) rfl rfl rfl ?_
  refine mi_s_gr S rfl rfl rfl (List.mem_of_getElem? (i := 17) rfl) ?_
  refine mi_wp_p (pc' := 205) (st' := [.int (Int32.ofInt (mi_sF σ 9 8)), .ref 11]) rfl rfl rfl ?_
  refine mi_wp_p (pc' := 206) (st' := [.int (Int32.ofInt 3), .int (Int32.ofInt (mi_sF σ 9 8)), .ref 11]) rfl rfl rfl ?_
  refine mi_s_mul rfl rfl ?_
  refine mi_wp_p (pc' := 208) (st' := [.int (Int32.ofInt a), .int (Int32.ofInt ((mi_sF σ 9 8) * 3)), .ref 11]) rfl rfl rfl ?_
  refine mi_s_ast S rfl rfl (List.mem_of_getElem? (i := 5) rfl) (by decide) (by decide) (by omega) (by omega) ?_
  intro h10 S f
  replace fr := mi_Fm_tr fr f
  refine mi_wp_p (pc' := 210) (st' := [.ref 9]) rfl rfl rfl ?_
  refine mi_s_gr S rfl rfl rfl (List.mem_of_getElem? (i := 17) rfl) ?_
  refine mi_wp_p (pc' := 215) (st' := [.int (Int32.ofInt (mi_sF σ 9 8)), .ref 11]) rfl rfl rfl ?_
  refine mi_wp_p (pc' := 216) (st' := [.int (Int32.ofInt 3), .int (Int32.ofInt (mi_sF σ 9 8)), .ref 11]) rfl rfl rfl ?_
  refine mi_s_mul rfl rfl ?_
  refine mi_wp_p (pc' := 218) (st' := [.int (Int32.ofInt 1), .int (Int32.ofInt ((mi_sF σ 9 8) * 3)), .ref 11]) rfl rfl rfl ?_
  refine mi_s_add rfl rfl ?_
  refine mi_wp_p (pc' := 220) (st' := [.int (Int32.ofInt b), .int (Int32.ofInt (((mi_sF σ 9 8) * 3) + 1)), .ref 11]) rfl rfl rfl ?_
  refine mi_s_ast S rfl rfl (List.mem_of_getElem? (i := 5) rfl) (by decide) (by decide) (by omega) (by omega) ?_
  intro h11 S f
  replace fr := mi_Fm_tr fr f
  refine mi_wp_p (pc' := 222) (st' := [.ref 9]) rfl rfl rfl ?_
  refine mi_s_gr S rfl rfl rfl (List.mem_of_getElem? (i := 17) rfl) ?_
  refine mi_wp_p (pc' := 227) (st' := [.int (Int32.ofInt (mi_sF σ 9 8)), .ref 11]) rfl rfl rfl ?_
  refine mi_wp_p (pc' := 228) (st' := [.int (Int32.ofInt 3), .int (Int32.ofInt (mi_sF σ 9 8)), .ref 11]) rfl rfl rfl ?_
  refine mi_s_mul rfl rfl ?_
  refine mi_wp_p (pc' := 230) (st' := [.int (Int32.ofInt 2), .int (Int32.ofInt ((mi_sF σ 9 8) * 3)), .ref 11]) rfl rfl rfl ?_
  refine mi_s_add rfl rfl ?_
  refine mi_wp_p (pc' := 233) (st' := [.int (Int32.ofInt c), .int (Int32.ofInt (((mi_sF σ 9 8) * 3) + 2)), .ref 11]) rfl rfl rfl ?_
  refine mi_s_ast S rfl rfl (List.mem_of_getElem? (i := 5) rfl) (by decide) (by decide) (by omega) (by omega) ?_
  intro h12 S f
  replace fr := mi_Fm_tr fr f
  refine mi_wp_p (pc' := 236) (st' := [.int (Int32.ofInt (mi_sF σ 9 8))]) rfl rfl rfl ?_
  exact mi_s_ret S fr rfl rfl rfl (mi_ret_i rfl) ⟨_, rfl, ⟨rfl, rfl⟩⟩
theorem mi_wL_ext {σ1 σ2 : mi_Sg} (a : σ1.1 = σ2.1) (b : σ1.2.2 = σ2.2.2) (c : ∀ (k : Nat) (i : Int), k ≠ 12 → mi_sA σ1 k i = mi_sA σ2 k i) : σ1 = mi_wL σ2 (mi_sA σ1 12) := by
  obtain ⟨f, A, r⟩ := σ1
  dsimp only at a b
  subst a b
  unfold mi_wL
  congr 2
  funext k i
  by_cases e : k = 12
  · rw [if_pos e, e]
    rfl
  · rw [if_neg e]
    exact c k i e
theorem ty_keep {X : mi_X} {d : Nat} {σ : mi_Sg} : ty_Cv X d mi_M134 [(0, .ref 9)] σ (fun σ' => σ' = mi_uF σ 9 9 (mi_sF σ 9 8)) := by
  intro h S
  obtain ⟨e0, L, t, S1, V⟩ := S
  have V0 := ty_VL_of.mp V
  obtain ⟨n0, z, hz1, v, h', σ', e1, e2, e3, e4, e5⟩ := ty1_keep (X := X) (d := d) (σ := mi_wL σ L) h S1
  subst e5
  exact ⟨n0, z, hz1, v, h', mi_uF σ 9 9 (mi_sF σ 9 8), e1, ⟨e0, L, t, e2, ty_VL_keep V0⟩, e3, e4, rfl⟩
theorem ty_dropLoose {X : mi_X} {d : Nat} {σ : mi_Sg} : ty_Cv X d mi_M124 [(0, .ref 9)] σ (fun σ' => σ' = mi_uF σ 9 8 (mi_sF σ 9 9)) := by
  intro h S
  obtain ⟨e0, L, t, S1, V⟩ := S
  obtain ⟨n0, z, hz1, v, h', σ', e1, e2, e3, e4, e5⟩ := ty1_dropLoose (X := X) (d := d) (σ := mi_wL σ L) h S1
  subst e5
  obtain ⟨t', V'⟩ := ty_VL_drop (ty_VL_of.mp V)
  exact ⟨n0, z, hz1, v, h', mi_uF σ 9 8 (mi_sF σ 9 9), e1, ⟨e0, L, t', e2, V'⟩, e3, e4, rfl⟩
theorem ty_cut {X : mi_X} {d : Nat} {σ : mi_Sg} : ty_Cv X d mi_M123 [(0, .ref 9), (1, .int (Int32.ofInt 13))] σ (fun σ' => σ' = mi_uF (mi_uF σ 9 8 13) 9 9 13) := by
  intro h S
  obtain ⟨e0, L, t, S1, V⟩ := S
  have V0 := ty_VL_of.mp V
  obtain ⟨n0, z, hz1, v, h', σ', e1, e2, e3, e4, e5⟩ := ty1_cut (X := X) (d := d) (σ := mi_wL σ L) (a := 13) rfl (by have := V0.2.2.2.2.1; have := V0.2.2.2.2.2.1; omega) V0.2.1 h S1
  subst e5
  obtain ⟨t', V'⟩ := ty_VL_cut V0
  exact ⟨n0, z, hz1, v, h', mi_uF (mi_uF σ 9 8 13) 9 9 13, e1, ⟨e0, L, t', e2, V'⟩, e3, e4, rfl⟩
theorem ty_make {X : mi_X} {d : Nat} {σ : mi_Sg} {g a b c : Int} (h1 : mi_sF σ 9 8 < 512) : ty_Ci X d mi_M136 [(0, .ref 9), (1, .int (Int32.ofInt g)), (2, .int (Int32.ofInt a)), (3, .int (Int32.ofInt b)), (4, .int (Int32.ofInt c))] σ (fun x σ' => x = mi_sF σ 9 8 ∧ σ' = ty_mk σ g a b c) := by
  intro h S
  obtain ⟨e0, L, t, S1, V⟩ := S
  have V0 := ty_VL_of.mp V
  obtain ⟨n0, z, hz1, v, h', σ', e1, e2, e3, x, e4, e5, e6⟩ := ty1_make (X := X) (d := d) (σ := mi_wL σ L) (g := g) (a := a) (b := b) (c := c) (by have := V0.1; show 0 < mi_sF (mi_wL σ L) 9 8; omega) h1 e0.1 h S1
  obtain ⟨t', V'⟩ := ty_VL_make V0 h1
  have ex : σ' = mi_wL (ty_mk σ g a b c) (mi_sA σ' 12) := mi_wL_ext (by rw [e6]; rfl) (by rw [e6]; rfl) (fun k i hk => by
    rw [e6]
    unfold ty_mk
    simp only [mi_AA, mi_AF, mi_wL_A hk]
    rfl)
  refine ⟨n0, z, hz1, v, h', ty_mk σ g a b c, e1, ⟨e0, mi_sA σ' 12, t', ex ▸ e2, ?_⟩, e3, x, e4, e5, rfl⟩
  have q1 : mi_sA σ' 12 = fun i => if i = mi_sF σ 9 8 then mi_sF σ 9 8 else L i := by
    funext i
    rw [e6]
    unfold ty_mk
    simp only [mi_AA, mi_AF]
    by_cases e : i = mi_sF σ 9 8
    · simp [e, mi_wL, mi_sF]
    · have e' : ¬ (i = σ.1 9 8) := e
      simp [e', mi_wL, mi_sF, mi_sA]
  have q2 : mi_sA (ty_mk σ g a b c) 12 = fun i => if i = mi_sF σ 9 8 then mi_sF σ 9 8 else mi_sA σ 12 i := by
    funext i
    unfold ty_mk
    simp only [mi_AA, mi_AF]
    by_cases e : i = mi_sF σ 9 8
    · simp [e]
    · simp [e]
  show ty_VL (mi_sF σ 9 8 + 1) (mi_sF σ 9 9) (mi_sA σ' 12) (mi_sA (ty_mk σ g a b c) 12) t'
  rw [q1, q2]
  exact V'
/-- a kid of a node, as the row has it -/
def ty_k (σ : mi_Sg) (n w : Int) : Int := mi_sA σ 11 (n * 3 + w)
theorem ty_H_z {h : mi_H} {σ : mi_Sg} (S : ty_H h σ) {n : Int} (h0 : 0 ≤ n) (h1 : n < mi_sF σ 9 8) : 0 ≤ mi_sA σ 12 n ∧ mi_sA σ 12 n < mi_sF σ 9 8 ∧ mi_sF σ 9 8 ≤ 512 := by
  have u := ty_H_u S
  by_cases hp : 0 < n
  · have := ty_H_r S hp h1
    omega
  · obtain rfl : n = 0 := by omega
    omega

theorem ty_begin {X : mi_X} {d : Nat} {σ : mi_Sg}  : ty_Cv X d mi_M121 [(0, .ref 9)] σ (fun σ' => σ' = mi_uF (mi_uF σ 9 11 (mi_sF σ 9 11 + 1)) 9 10 0) := by
  intro h S
  have fr := mi_Fm_rf h
  refine mi_wp_p (pc' := 1) (st' := [.ref 9]) rfl rfl rfl ?_
  refine mi_wp_p (pc' := 2) (st' := [.ref 9, .ref 9]) rfl rfl rfl ?_
  refine ty_s_gf (x := mi_sF σ 9 11) S rfl rfl rfl (List.mem_of_getElem? (i := 9) rfl) rfl ?_
  refine mi_wp_p (pc' := 6) (st' := [.int (Int32.ofInt 1), .int (Int32.ofInt (mi_sF σ 9 11)), .ref 9]) rfl rfl rfl ?_
  refine mi_s_add rfl rfl ?_
  refine ty_s_pf S rfl rfl rfl (List.mem_of_getElem? (i := 9) rfl) (by decide) mi_fit_int (Or.inl rfl) ?_
  intro h13 S f
  replace fr := mi_Fm_tr fr f
  refine mi_wp_p (pc' := 11) (st' := [.ref 9]) rfl rfl rfl ?_
  refine mi_wp_p (pc' := 12) (st' := [.int (Int32.ofInt 0), .ref 9]) rfl rfl rfl ?_
  refine ty_s_pf S rfl rfl rfl (List.mem_of_getElem? (i := 8) rfl) (by decide) mi_fit_int (Or.inl rfl) ?_
  intro h14 S f
  replace fr := mi_Fm_tr fr f
  exact ty_s_ret S fr rfl rfl rfl rfl ⟨rfl, rfl⟩
theorem ty_extent {X : mi_X} {d : Nat} {σ : mi_Sg}  : ty_Ci X d mi_M126 [(0, .ref 9)] σ (fun x σ' => x = mi_sF σ 9 8 ∧ σ' = σ) := by
  intro h S
  have fr := mi_Fm_rf h
  refine mi_wp_p (pc' := 1) (st' := [.ref 9]) rfl rfl rfl ?_
  refine ty_s_gf (x := mi_sF σ 9 8) S rfl rfl rfl (List.mem_of_getElem? (i := 6) rfl) rfl ?_
  exact ty_s_ret S fr rfl rfl rfl (mi_ret_i rfl) ⟨_, rfl, ⟨rfl, rfl⟩⟩
theorem ty_gathered {X : mi_X} {d : Nat} {σ : mi_Sg}  : ty_Ci X d mi_M131 [(0, .ref 9)] σ (fun x σ' => x = mi_sF σ 9 10 ∧ σ' = σ) := by
  intro h S
  have fr := mi_Fm_rf h
  refine mi_wp_p (pc' := 1) (st' := [.ref 9]) rfl rfl rfl ?_
  refine ty_s_gf (x := mi_sF σ 9 10) S rfl rfl rfl (List.mem_of_getElem? (i := 8) rfl) rfl ?_
  exact ty_s_ret S fr rfl rfl rfl (mi_ret_i rfl) ⟨_, rfl, ⟨rfl, rfl⟩⟩
theorem ty_gatheredAt {X : mi_X} {d : Nat} {σ : mi_Sg} {a : Int} (h0 : 0 ≤ a) (h1 : a < mi_sF σ 9 10) (h2 : mi_sF σ 9 10 ≤ 512) : ty_Ci X d mi_M132 [(0, .ref 9), (1, .int (Int32.ofInt a))] σ (fun x σ' => x = mi_sA σ 15 a ∧ σ' = σ) := by
  intro h S
  have fr := mi_Fm_rf h
  refine mi_wp_p (pc' := 1) (st' := [.int (Int32.ofInt a)]) rfl rfl rfl ?_
  refine mi_s_if1 (t := 21) rfl rfl rfl (by unfold mi_R; omega) (fun hc_ => absurd (show a < 0 from hc_) (by omega)) (fun _ => ?_)
  refine mi_wp_p (pc' := 5) (st' := [.int (Int32.ofInt a)]) rfl rfl rfl ?_
  refine mi_wp_p (pc' := 6) (st' := [.ref 9, .int (Int32.ofInt a)]) rfl rfl rfl ?_
  refine ty_s_gf (x := mi_sF σ 9 10) S rfl rfl rfl (List.mem_of_getElem? (i := 8) rfl) rfl ?_
  refine mi_s_if2 (t := 21) rfl rfl rfl (by unfold mi_R; omega) (by unfold mi_R; omega) (fun hc_ => absurd (show (mi_sF σ 9 10) ≤ a from hc_) (by omega)) (fun _ => ?_)
  refine mi_wp_p (pc' := 13) (st' := [.ref 9]) rfl rfl rfl ?_
  refine ty_s_gr S rfl rfl rfl (List.mem_of_getElem? (i := 21) rfl) ?_
  refine mi_wp_p (pc' := 17) (st' := [.int (Int32.ofInt a), .ref 15]) rfl rfl rfl ?_
  refine ty_s_ald (x := mi_sA σ 15 a) S rfl rfl (List.mem_of_getElem? (i := 9) rfl) (by decide) (by omega) (by omega) rfl ?_
  refine mi_wp_p (pc' := 22) rfl rfl rfl ?_
  exact ty_s_ret S fr rfl rfl rfl (mi_ret_i rfl) ⟨_, rfl, ⟨rfl, rfl⟩⟩
theorem ty_unknown {X : mi_X} {σ : mi_Sg} {d : Nat}  (h1 : mi_sF σ 9 8 < 512) : ty_Ci X (d + 1) mi_M148 [(0, .ref 9)] σ (fun x σ' => x = mi_sF σ 9 8 ∧ σ' = ty_mk σ 3 0 0 0) := by
  intro h S
  have fr := mi_Fm_rf h
  refine mi_wp_p (pc' := 1) (st' := [.ref 9]) rfl rfl rfl ?_
  refine mi_wp_p (pc' := 2) (st' := [.int (Int32.ofInt 3), .ref 9]) rfl rfl rfl ?_
  refine mi_wp_p (pc' := 3) (st' := [.int (Int32.ofInt 0), .int (Int32.ofInt 3), .ref 9]) rfl rfl rfl ?_
  refine mi_wp_p (pc' := 4) (st' := [.int (Int32.ofInt 0), .int (Int32.ofInt 0), .int (Int32.ofInt 3), .ref 9]) rfl rfl rfl ?_
  refine mi_wp_p (pc' := 5) (st' := [.int (Int32.ofInt 0), .int (Int32.ofInt 0), .int (Int32.ofInt 0), .int (Int32.ofInt 3), .ref 9]) rfl rfl rfl ?_
  refine ty_s_ci rfl rfl rfl rfl rfl rfl (mi_cal_v2 (np := 4) (args := [.ref 9, .int (Int32.ofInt 3), .int (Int32.ofInt 0), .int (Int32.ofInt 0), .int (Int32.ofInt 0)]) (rest := []) rfl rfl rfl rfl rfl (Nat.le_of_ble_eq_true rfl) rfl rfl (Nat.le_of_ble_eq_true rfl) (ty_rcS S (List.mem_of_getElem? (i := 5) rfl))) (Nat.le_of_ble_eq_true rfl) S (ty_make h1) ?_
  intro x hh σ1 S f P
  obtain ⟨e1, e2⟩ := P
  rw [e2] at S
  rw [e1]
  clear e1 e2
  replace fr := mi_Fm_tr fr f
  exact ty_s_ret S fr rfl rfl rfl (mi_ret_i rfl) ⟨_, rfl, ⟨rfl, rfl⟩⟩
theorem ty_mark {X : mi_X} {σ : mi_Sg} {d : Nat}  (h1 : mi_sF σ 9 8 < 512) : ty_Ci X (d + 1) mi_M137 [(0, .ref 9)] σ (fun x σ' => x = mi_sF σ 9 8 ∧ σ' = ty_mk σ 4 0 0 0) := by
  intro h S
  have fr := mi_Fm_rf h
  refine mi_wp_p (pc' := 1) (st' := [.ref 9]) rfl rfl rfl ?_
  refine mi_wp_p (pc' := 2) (st' := [.int (Int32.ofInt 4), .ref 9]) rfl rfl rfl ?_
  refine mi_wp_p (pc' := 3) (st' := [.int (Int32.ofInt 0), .int (Int32.ofInt 4), .ref 9]) rfl rfl rfl ?_
  refine mi_wp_p (pc' := 4) (st' := [.int (Int32.ofInt 0), .int (Int32.ofInt 0), .int (Int32.ofInt 4), .ref 9]) rfl rfl rfl ?_
  refine mi_wp_p (pc' := 5) (st' := [.int (Int32.ofInt 0), .int (Int32.ofInt 0), .int (Int32.ofInt 0), .int (Int32.ofInt 4), .ref 9]) rfl rfl rfl ?_
  refine ty_s_ci rfl rfl rfl rfl rfl rfl (mi_cal_v2 (np := 4) (args := [.ref 9, .int (Int32.ofInt 4), .int (Int32.ofInt 0), .int (Int32.ofInt 0), .int (Int32.ofInt 0)]) (rest := []) rfl rfl rfl rfl rfl (Nat.le_of_ble_eq_true rfl) rfl rfl (Nat.le_of_ble_eq_true rfl) (ty_rcS S (List.mem_of_getElem? (i := 5) rfl))) (Nat.le_of_ble_eq_true rfl) S (ty_make h1) ?_
  intro x hh σ1 S f P
  obtain ⟨e1, e2⟩ := P
  rw [e2] at S
  rw [e1]
  clear e1 e2
  replace fr := mi_Fm_tr fr f
  exact ty_s_ret S fr rfl rfl rfl (mi_ret_i rfl) ⟨_, rfl, ⟨rfl, rfl⟩⟩
theorem ty_pair {X : mi_X} {σ : mi_Sg} {d : Nat} {a b : Int} (h1 : mi_sF σ 9 8 < 512) : ty_Ci X (d + 1) mi_M142 [(0, .ref 9), (1, .int (Int32.ofInt a)), (2, .int (Int32.ofInt b))] σ (fun x σ' => x = mi_sF σ 9 8 ∧ σ' = ty_mk σ 5 a b 0) := by
  intro h S
  have fr := mi_Fm_rf h
  refine mi_wp_p (pc' := 1) (st' := [.ref 9]) rfl rfl rfl ?_
  refine mi_wp_p (pc' := 2) (st' := [.int (Int32.ofInt 5), .ref 9]) rfl rfl rfl ?_
  refine mi_wp_p (pc' := 3) (st' := [.int (Int32.ofInt a), .int (Int32.ofInt 5), .ref 9]) rfl rfl rfl ?_
  refine mi_wp_p (pc' := 4) (st' := [.int (Int32.ofInt b), .int (Int32.ofInt a), .int (Int32.ofInt 5), .ref 9]) rfl rfl rfl ?_
  refine mi_wp_p (pc' := 5) (st' := [.int (Int32.ofInt 0), .int (Int32.ofInt b), .int (Int32.ofInt a), .int (Int32.ofInt 5), .ref 9]) rfl rfl rfl ?_
  refine ty_s_ci rfl rfl rfl rfl rfl rfl (mi_cal_v2 (np := 4) (args := [.ref 9, .int (Int32.ofInt 5), .int (Int32.ofInt a), .int (Int32.ofInt b), .int (Int32.ofInt 0)]) (rest := []) rfl rfl rfl rfl rfl (Nat.le_of_ble_eq_true rfl) rfl rfl (Nat.le_of_ble_eq_true rfl) (ty_rcS S (List.mem_of_getElem? (i := 5) rfl))) (Nat.le_of_ble_eq_true rfl) S (ty_make h1) ?_
  intro x hh σ1 S f P
  obtain ⟨e1, e2⟩ := P
  rw [e2] at S
  rw [e1]
  clear e1 e2
  replace fr := mi_Fm_tr fr f
  exact ty_s_ret S fr rfl rfl rfl (mi_ret_i rfl) ⟨_, rfl, ⟨rfl, rfl⟩⟩
theorem ty_function {X : mi_X} {σ : mi_Sg} {d : Nat} {a b : Int} (h1 : mi_sF σ 9 8 < 512) : ty_Ci X (d + 1) mi_M129 [(0, .ref 9), (1, .int (Int32.ofInt a)), (2, .int (Int32.ofInt b))] σ (fun x σ' => x = mi_sF σ 9 8 ∧ σ' = ty_mk σ 6 a b 0) := by
  intro h S
  have fr := mi_Fm_rf h
  refine mi_wp_p (pc' := 1) (st' := [.ref 9]) rfl rfl rfl ?_
  refine mi_s_k (pc' := 3) (e := 6) rfl rfl rfl (by decide +kernel) ?_
  refine mi_wp_p (pc' := 4) (st' := [.int (Int32.ofInt a), .int (Int32.ofInt 6), .ref 9]) rfl rfl rfl ?_
  refine mi_wp_p (pc' := 5) (st' := [.int (Int32.ofInt b), .int (Int32.ofInt a), .int (Int32.ofInt 6), .ref 9]) rfl rfl rfl ?_
  refine mi_wp_p (pc' := 6) (st' := [.int (Int32.ofInt 0), .int (Int32.ofInt b), .int (Int32.ofInt a), .int (Int32.ofInt 6), .ref 9]) rfl rfl rfl ?_
  refine ty_s_ci rfl rfl rfl rfl rfl rfl (mi_cal_v2 (np := 4) (args := [.ref 9, .int (Int32.ofInt 6), .int (Int32.ofInt a), .int (Int32.ofInt b), .int (Int32.ofInt 0)]) (rest := []) rfl rfl rfl rfl rfl (Nat.le_of_ble_eq_true rfl) rfl rfl (Nat.le_of_ble_eq_true rfl) (ty_rcS S (List.mem_of_getElem? (i := 5) rfl))) (Nat.le_of_ble_eq_true rfl) S (ty_make h1) ?_
  intro x hh σ1 S f P
  obtain ⟨e1, e2⟩ := P
  rw [e2] at S
  rw [e1]
  clear e1 e2
  replace fr := mi_Fm_tr fr f
  exact ty_s_ret S fr rfl rfl rfl (mi_ret_i rfl) ⟨_, rfl, ⟨rfl, rfl⟩⟩
theorem ty_tagOf {X : mi_X} {σ : mi_Sg} {d : Nat} {nd : Int} (hz : 0 ≤ nd) (h1 : nd < mi_sF σ 9 8) : ty_Ci X (d + 1) mi_M146 [(0, .ref 9), (1, .int (Int32.ofInt nd))] σ (fun x σ' => x = mi_sA σ 10 (mi_sA σ 12 nd) ∧ σ' = σ) := by
  intro h S
  have fr := mi_Fm_rf h
  have r0 := ty_H_z S hz h1
  refine mi_wp_p (pc' := 1) (st' := [.ref 9]) rfl rfl rfl ?_
  refine ty_s_gr S rfl rfl rfl (List.mem_of_getElem? (i := 16) rfl) ?_
  refine mi_wp_p (pc' := 5) (st' := [.ref 9, .ref 10]) rfl rfl rfl ?_
  refine mi_wp_p (pc' := 6) (st' := [.int (Int32.ofInt nd), .ref 9, .ref 10]) rfl rfl rfl ?_
  refine ty_s_ci rfl rfl rfl rfl rfl rfl (mi_cal_v2 (np := 1) (args := [.ref 9, .int (Int32.ofInt nd)]) (rest := [.ref 10]) rfl rfl rfl rfl rfl (Nat.le_of_ble_eq_true rfl) rfl rfl (Nat.le_of_ble_eq_true rfl) (ty_rcS S (List.mem_of_getElem? (i := 5) rfl))) (Nat.le_of_ble_eq_true rfl) S (ty_find2 hz h1) ?_
  intro x hh σu S f P
  obtain ⟨e1, e2⟩ := P
  rw [e2] at S
  rw [e1]
  clear e1 e2
  replace fr := mi_Fm_tr fr f
  refine ty_s_ald (x := mi_sA σ 10 (mi_sA σ 12 nd)) S rfl rfl (List.mem_of_getElem? (i := 4) rfl) (by decide) (by omega) (by omega) rfl ?_
  exact ty_s_ret S fr rfl rfl rfl (mi_ret_i rfl) ⟨_, rfl, ⟨rfl, rfl⟩⟩
theorem ty_noteOf {X : mi_X} {σ : mi_Sg} {d : Nat} {nd : Int} (hz : 0 ≤ nd) (h1 : nd < mi_sF σ 9 8) : ty_Ci X (d + 1) mi_M140 [(0, .ref 9), (1, .int (Int32.ofInt nd))] σ (fun x σ' => x = mi_sA σ 14 (mi_sA σ 12 nd) ∧ σ' = σ) := by
  intro h S
  have fr := mi_Fm_rf h
  have r0 := ty_H_z S hz h1
  refine mi_wp_p (pc' := 1) (st' := [.ref 9]) rfl rfl rfl ?_
  refine ty_s_gr S rfl rfl rfl (List.mem_of_getElem? (i := 20) rfl) ?_
  refine mi_wp_p (pc' := 5) (st' := [.ref 9, .ref 14]) rfl rfl rfl ?_
  refine mi_wp_p (pc' := 6) (st' := [.int (Int32.ofInt nd), .ref 9, .ref 14]) rfl rfl rfl ?_
  refine ty_s_ci rfl rfl rfl rfl rfl rfl (mi_cal_v2 (np := 1) (args := [.ref 9, .int (Int32.ofInt nd)]) (rest := [.ref 14]) rfl rfl rfl rfl rfl (Nat.le_of_ble_eq_true rfl) rfl rfl (Nat.le_of_ble_eq_true rfl) (ty_rcS S (List.mem_of_getElem? (i := 5) rfl))) (Nat.le_of_ble_eq_true rfl) S (ty_find2 hz h1) ?_
  intro x hh σu S f P
  obtain ⟨e1, e2⟩ := P
  rw [e2] at S
  rw [e1]
  clear e1 e2
  replace fr := mi_Fm_tr fr f
  refine ty_s_ald (x := mi_sA σ 14 (mi_sA σ 12 nd)) S rfl rfl (List.mem_of_getElem? (i := 8) rfl) (by decide) (by omega) (by omega) rfl ?_
  exact ty_s_ret S fr rfl rfl rfl (mi_ret_i rfl) ⟨_, rfl, ⟨rfl, rfl⟩⟩
theorem ty_setNote {X : mi_X} {σ : mi_Sg} {d : Nat} {nd v : Int} (hz : 0 ≤ nd) (h1 : nd < mi_sF σ 9 8) : ty_Cv X (d + 1) mi_M145 [(0, .ref 9), (1, .int (Int32.ofInt nd)), (2, .int (Int32.ofInt v))] σ (fun σ' => σ' = mi_uA σ 14 (mi_sA σ 12 nd) v) := by
  intro h S
  have fr := mi_Fm_rf h
  have r0 := ty_H_z S hz h1
  refine mi_wp_p (pc' := 1) (st' := [.ref 9]) rfl rfl rfl ?_
  refine ty_s_gr S rfl rfl rfl (List.mem_of_getElem? (i := 20) rfl) ?_
  refine mi_wp_p (pc' := 5) (st' := [.ref 9, .ref 14]) rfl rfl rfl ?_
  refine mi_wp_p (pc' := 6) (st' := [.int (Int32.ofInt nd), .ref 9, .ref 14]) rfl rfl rfl ?_
  refine ty_s_ci rfl rfl rfl rfl rfl rfl (mi_cal_v2 (np := 1) (args := [.ref 9, .int (Int32.ofInt nd)]) (rest := [.ref 14]) rfl rfl rfl rfl rfl (Nat.le_of_ble_eq_true rfl) rfl rfl (Nat.le_of_ble_eq_true rfl) (ty_rcS S (List.mem_of_getElem? (i := 5) rfl))) (Nat.le_of_ble_eq_true rfl) S (ty_find2 hz h1) ?_
  intro x hh σu S f P
  obtain ⟨e1, e2⟩ := P
  rw [e2] at S
  rw [e1]
  clear e1 e2
  replace fr := mi_Fm_tr fr f
  refine mi_wp_p (pc' := 10) (st' := [.int (Int32.ofInt v), .int (Int32.ofInt (mi_sA σ 12 nd)), .ref 14]) rfl rfl rfl ?_
  refine ty_s_ast S rfl rfl (List.mem_of_getElem? (i := 8) rfl) (by decide) (by decide) (by omega) (by omega) ?_
  intro h15 S f
  replace fr := mi_Fm_tr fr f
  exact ty_s_ret S fr rfl rfl rfl rfl ⟨rfl, rfl⟩
theorem ty_kidOf {X : mi_X} {σ : mi_Sg} {d : Nat} {nd w : Int} (hz : 0 < nd) (h1 : nd < mi_sF σ 9 8) (hw : 0 ≤ w ∧ w < 3) (hk : 0 ≤ ty_k σ (mi_sA σ 12 nd) w ∧ ty_k σ (mi_sA σ 12 nd) w < mi_sF σ 9 8) : ty_Ci X (d + 1) mi_M135 [(0, .ref 9), (1, .int (Int32.ofInt nd)), (2, .int (Int32.ofInt w))] σ (fun x σ' => x = mi_sA σ 12 (ty_k σ (mi_sA σ 12 nd) w) ∧ σ' = σ) := by
  intro h S
  have fr := mi_Fm_rf h
  have r0 := ty_H_r S hz h1
  have r1 := ty_H_u S
  unfold ty_k at *
  refine mi_wp_p (pc' := 1) (st' := [.int (Int32.ofInt w)]) rfl rfl rfl ?_
  refine mi_s_if1 (t := 9) rfl rfl rfl (by unfold mi_R; omega) (fun hc_ => absurd (show w < 0 from hc_) (by omega)) (fun _ => ?_)
  refine mi_wp_p (pc' := 5) (st' := [.int (Int32.ofInt w)]) rfl rfl rfl ?_
  refine mi_wp_p (pc' := 6) (st' := [.int (Int32.ofInt 3), .int (Int32.ofInt w)]) rfl rfl rfl ?_
  refine mi_s_if2 (t := 13) rfl rfl rfl (by unfold mi_R; omega) (by unfold mi_R; omega) (fun _ => ?_) (fun hc_ => absurd (show w < 3 by omega) hc_)
  refine mi_wp_p (pc' := 14) (st' := [.ref 9]) rfl rfl rfl ?_
  refine mi_wp_p (pc' := 15) (st' := [.ref 9, .ref 9]) rfl rfl rfl ?_
  refine ty_s_gr S rfl rfl rfl (List.mem_of_getElem? (i := 17) rfl) ?_
  refine mi_wp_p (pc' := 19) (st' := [.ref 9, .ref 11, .ref 9]) rfl rfl rfl ?_
  refine mi_wp_p (pc' := 20) (st' := [.int (Int32.ofInt nd), .ref 9, .ref 11, .ref 9]) rfl rfl rfl ?_
  refine ty_s_ci rfl rfl rfl rfl rfl rfl (mi_cal_v2 (np := 1) (args := [.ref 9, .int (Int32.ofInt nd)]) (rest := [.ref 11, .ref 9]) rfl rfl rfl rfl rfl (Nat.le_of_ble_eq_true rfl) rfl rfl (Nat.le_of_ble_eq_true rfl) (ty_rcS S (List.mem_of_getElem? (i := 5) rfl))) (Nat.le_of_ble_eq_true rfl) S (ty_find2 (by omega) (by omega)) ?_
  intro x hh σu S f P
  obtain ⟨e1, e2⟩ := P
  rw [e2] at S
  rw [e1]
  clear e1 e2
  replace fr := mi_Fm_tr fr f
  refine mi_wp_p (pc' := 24) (st' := [.int (Int32.ofInt 3), .int (Int32.ofInt (mi_sA σ 12 nd)), .ref 11, .ref 9]) rfl rfl rfl ?_
  refine mi_s_mul rfl rfl ?_
  refine mi_wp_p (pc' := 26) (st' := [.int (Int32.ofInt w), .int (Int32.ofInt ((mi_sA σ 12 nd) * 3)), .ref 11, .ref 9]) rfl rfl rfl ?_
  refine mi_s_add rfl rfl ?_
  refine ty_s_ald (x := mi_sA σ 11 (((mi_sA σ 12 nd) * 3) + w)) S rfl rfl (List.mem_of_getElem? (i := 5) rfl) (by decide) (by omega) (by omega) rfl ?_
  refine ty_s_ci rfl rfl rfl rfl rfl rfl (mi_cal_v2 (np := 1) (args := [.ref 9, .int (Int32.ofInt (mi_sA σ 11 (((mi_sA σ 12 nd) * 3) + w)))]) (rest := []) rfl rfl rfl rfl rfl (Nat.le_of_ble_eq_true rfl) rfl rfl (Nat.le_of_ble_eq_true rfl) (ty_rcS S (List.mem_of_getElem? (i := 5) rfl))) (Nat.le_of_ble_eq_true rfl) S (ty_find2 (by omega) (by omega)) ?_
  intro x hh σu S f P
  obtain ⟨e1, e2⟩ := P
  rw [e2] at S
  rw [e1]
  clear e1 e2
  replace fr := mi_Fm_tr fr f
  exact ty_s_ret S fr rfl rfl rfl (mi_ret_i rfl) ⟨_, rfl, ⟨rfl, rfl⟩⟩
