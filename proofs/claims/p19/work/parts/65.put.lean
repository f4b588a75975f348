/-! ===== the turns of Writer.put (printed by wip/gen/p_put.py) ===== -/
def PH (X : mi_X) (d : Nat) (h0 : mi_H) (Q : mi_Z → Prop) (rt n : Int) (σ : mi_Sg) : Prop := ∀ h, ty_H h σ → mi_Fm h0 h → mi_wp X (d + 8) mi_M159 77 [(2, .int (Int32.ofInt n)), (0, .ref 52), (1, .int (Int32.ofInt rt))] [] h 0 0 Q
/-- one thing less is pending -/
def wpp (σ : mi_Sg) : mi_Sg := mi_uF σ 52 4 (mi_sF σ 52 4 - 1)
theorem ph_byte {X : mi_X} {d : Nat} {h0 : mi_H} {Q : mi_Z → Prop} {rt n b : Int} {σ : mi_Sg} (n0 : 0 ≤ n) (n1 : n < 1024) (p0 : 0 < mi_sF σ 52 4) (p1 : mi_sF σ 52 4 ≤ 1024) (hb : mi_sA σ 54 (mi_sF σ 52 4 - 1) = -b) (b0 : 0 < b) (b1 : b < 128) (s0 : 0 ≤ mi_sF σ 52 5) (s1 : mi_sF σ 52 5 < 400) (KX : PH X d h0 Q rt (n + 1) (wpb (wpp σ) b)) : PH X d h0 Q rt n σ := by
  intro h S fr
  have hu := ty_H_u S
  refine mi_wp_p (pc' := 78) (st' := [.int (Int32.ofInt n)]) rfl rfl rfl ?_
  refine mi_s_k (pc' := 81) (e := 1024) rfl rfl rfl (by decide +kernel) ?_
  refine mi_s_if2 (t := 135) rfl rfl rfl (by unfold mi_R; omega) (by unfold mi_R; omega) (fun hc_ => absurd (show 1024 ≤ n from hc_) (by omega)) (fun _ => ?_)
  refine mi_wp_p (pc' := 85) (st' := [.ref 52]) rfl rfl rfl ?_
  refine ty_s_gf (x := mi_sF σ 52 4) S rfl rfl rfl (List.mem_of_getElem? (i := 27) rfl) rfl ?_
  refine mi_s_if1 (t := 135) rfl rfl rfl (by unfold mi_R; omega) (fun hc_ => absurd (show (mi_sF σ 52 4) ≤ 0 from hc_) (by omega)) (fun _ => ?_)
  refine mi_wp_p (pc' := 92) (st' := [.ref 52]) rfl rfl rfl ?_
  refine mi_wp_p (pc' := 93) (st' := [.ref 52, .ref 52]) rfl rfl rfl ?_
  refine ty_s_gf (x := mi_sF σ 52 4) S rfl rfl rfl (List.mem_of_getElem? (i := 27) rfl) rfl ?_
  refine mi_wp_p (pc' := 97) (st' := [.int (Int32.ofInt 1), .int (Int32.ofInt (mi_sF σ 52 4)), .ref 52]) rfl rfl rfl ?_
  refine mi_s_sub rfl rfl ?_
  refine ty_s_pf S rfl rfl rfl (List.mem_of_getElem? (i := 27) rfl) (by decide) mi_fit_int (Or.inl rfl) ?_
  intro h1 S f
  replace fr := mi_Fm_tr fr f
  refine mi_wp_p (pc' := 102) (st' := [.ref 52]) rfl rfl rfl ?_
  refine ty_s_gr S rfl rfl rfl (List.mem_of_getElem? (i := 67) rfl) ?_
  refine mi_wp_p (pc' := 106) (st' := [.ref 52, .ref 54]) rfl rfl rfl ?_
  refine ty_s_gf (x := (mi_sF σ 52 4) - 1) S rfl rfl rfl (List.mem_of_getElem? (i := 27) rfl) rfl ?_
  refine ty_s_ald (x := mi_sA σ 54 ((mi_sF σ 52 4) - 1)) S rfl rfl (List.mem_of_getElem? (i := 36) rfl) (by decide) (by omega) (by omega) rfl ?_
  refine mi_s_top hb ?_
  refine mi_wp_p (pc' := 111) (l' := [(3, .int (Int32.ofInt (-b))), (2, .int (Int32.ofInt n)), (0, .ref 52), (1, .int (Int32.ofInt rt))]) (st' := []) rfl rfl rfl ?_
  refine mi_wp_p (pc' := 112) (st' := [.int (Int32.ofInt (-b))]) rfl rfl rfl ?_
  refine mi_s_if1 (t := 124) rfl rfl rfl (by unfold mi_R; omega) (fun hc_ => absurd (show 0 ≤ (-b) from hc_) (by omega)) (fun _ => ?_)
  refine mi_wp_p (pc' := 116) (st' := [.ref 52]) rfl rfl rfl ?_
  refine mi_wp_p (pc' := 117) (st' := [.int (Int32.ofInt (-b)), .ref 52]) rfl rfl rfl ?_
  refine mi_s_neg rfl rfl ?_
  refine mi_s_top (show - -b = b by omega) ?_
  refine ty_s_cv rfl rfl rfl rfl rfl rfl (mi_cal_v2 (np := 1) (args := [.ref 52, .int (Int32.ofInt b)]) (rest := []) rfl rfl rfl rfl rfl (Nat.le_of_ble_eq_true rfl) rfl rfl (Nat.le_of_ble_eq_true rfl) (ty_rcS S (List.mem_of_getElem? (i := 27) rfl))) (Nat.le_of_ble_eq_true rfl) S (wr_putByte (σ := wpp σ) s0 s1 (by omega) (by omega)) ?_
  intro hh σ2 S f P
  subst P
  replace fr := mi_Fm_tr fr f
  refine mi_wp_p (pc' := 129) rfl rfl rfl ?_
  refine mi_s_inc (l' := [(2, .int (Int32.ofInt (n + 1))), (3, .int (Int32.ofInt (-b))), (0, .ref 52), (1, .int (Int32.ofInt rt))]) rfl rfl rfl (by decide) rfl ?_
  refine mi_wp_p (pc' := 77) rfl rfl rfl ?_
  refine mi_wp_lw (l := [(2, .int (Int32.ofInt (n + 1))), (0, .ref 52), (1, .int (Int32.ofInt rt))]) (mi_lw_of (show List.Nodup [2, 0, 1] by decide) ⟨rfl, rfl, rfl, trivial⟩) ?_
  exact KX _ S fr
theorem ph_node {X : mi_X} {d : Nat} {h0 : mi_H} {Q : mi_Z → Prop} {rt n b : Int} {σ : mi_Sg} (n0 : 0 ≤ n) (n1 : n < 1024) (p0 : 0 < mi_sF σ 52 4) (p1 : mi_sF σ 52 4 ≤ 1024) {P : mi_Sg → Prop} (hb : mi_sA σ 54 (mi_sF σ 52 4 - 1) = b) (b0 : 0 ≤ b) (b1 : b < 1000) (H : ty_Cv X (d + 7) mi_M163 [(0, .ref 52), (1, .int (Int32.ofInt b))] (wpp σ) P) (KX : ∀ σ', P σ' → PH X d h0 Q rt (n + 1) σ') : PH X d h0 Q rt n σ := by
  intro h S fr
  have hu := ty_H_u S
  refine mi_wp_p (pc' := 78) (st' := [.int (Int32.ofInt n)]) rfl rfl rfl ?_
  refine mi_s_k (pc' := 81) (e := 1024) rfl rfl rfl (by decide +kernel) ?_
  refine mi_s_if2 (t := 135) rfl rfl rfl (by unfold mi_R; omega) (by unfold mi_R; omega) (fun hc_ => absurd (show 1024 ≤ n from hc_) (by omega)) (fun _ => ?_)
  refine mi_wp_p (pc' := 85) (st' := [.ref 52]) rfl rfl rfl ?_
  refine ty_s_gf (x := mi_sF σ 52 4) S rfl rfl rfl (List.mem_of_getElem? (i := 27) rfl) rfl ?_
  refine mi_s_if1 (t := 135) rfl rfl rfl (by unfold mi_R; omega) (fun hc_ => absurd (show (mi_sF σ 52 4) ≤ 0 from hc_) (by omega)) (fun _ => ?_)
  refine mi_wp_p (pc' := 92) (st' := [.ref 52]) rfl rfl rfl ?_
  refine mi_wp_p (pc' := 93) (st' := [.ref 52, .ref 52]) rfl rfl rfl ?_
  refine ty_s_gf (x := mi_sF σ 52 4) S rfl rfl rfl (List.mem_of_getElem? (i := 27) rfl) rfl ?_
  refine mi_wp_p (pc' := 97) (st' := [.int (Int32.ofInt 1), .int (Int32.ofInt (mi_sF σ 52 4)), .ref 52]) rfl rfl rfl ?_
  refine mi_s_sub rfl rfl ?_
  refine ty_s_pf S rfl rfl rfl (List.mem_of_getElem? (i := 27) rfl) (by decide) mi_fit_int (Or.inl rfl) ?_
  intro h1 S f
  replace fr := mi_Fm_tr fr f
  refine mi_wp_p (pc' := 102) (st' := [.ref 52]) rfl rfl rfl ?_
  refine ty_s_gr S rfl rfl rfl (List.mem_of_getElem? (i := 67) rfl) ?_
  refine mi_wp_p (pc' := 106) (st' := [.ref 52, .ref 54]) rfl rfl rfl ?_
  refine ty_s_gf (x := (mi_sF σ 52 4) - 1) S rfl rfl rfl (List.mem_of_getElem? (i := 27) rfl) rfl ?_
  refine ty_s_ald (x := mi_sA σ 54 ((mi_sF σ 52 4) - 1)) S rfl rfl (List.mem_of_getElem? (i := 36) rfl) (by decide) (by omega) (by omega) rfl ?_
  refine mi_s_top hb ?_
  refine mi_wp_p (pc' := 111) (l' := [(3, .int (Int32.ofInt b)), (2, .int (Int32.ofInt n)), (0, .ref 52), (1, .int (Int32.ofInt rt))]) (st' := []) rfl rfl rfl ?_
  refine mi_wp_p (pc' := 112) (st' := [.int (Int32.ofInt b)]) rfl rfl rfl ?_
  refine mi_s_if1 (t := 124) rfl rfl rfl (by unfold mi_R; omega) (fun _ => ?_) (fun hc_ => absurd (show 0 ≤ b by omega) hc_)
  refine mi_wp_p (pc' := 125) (st' := [.ref 52]) rfl rfl rfl ?_
  refine mi_wp_p (pc' := 126) (st' := [.int (Int32.ofInt b), .ref 52]) rfl rfl rfl ?_
  refine ty_s_cv rfl rfl rfl rfl rfl rfl (mi_cal_v2 (np := 1) (args := [.ref 52, .int (Int32.ofInt b)]) (rest := []) rfl rfl rfl rfl rfl (Nat.le_of_ble_eq_true rfl) rfl rfl (Nat.le_of_ble_eq_true rfl) (ty_rcS S (List.mem_of_getElem? (i := 27) rfl))) (Nat.le_of_ble_eq_true rfl) S H ?_
  intro hh σ2 S f P
  replace fr := mi_Fm_tr fr f
  refine mi_s_inc (l' := [(2, .int (Int32.ofInt (n + 1))), (3, .int (Int32.ofInt b)), (0, .ref 52), (1, .int (Int32.ofInt rt))]) rfl rfl rfl (by decide) rfl ?_
  refine mi_wp_p (pc' := 77) rfl rfl rfl ?_
  refine mi_wp_lw (l := [(2, .int (Int32.ofInt (n + 1))), (0, .ref 52), (1, .int (Int32.ofInt rt))]) (mi_lw_of (show List.Nodup [2, 0, 1] by decide) ⟨rfl, rfl, rfl, trivial⟩) ?_
  exact KX σ2 P _ S fr
