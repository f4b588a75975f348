/-! ===== Writer.put (printed by wip/gen/p_putw.py) ===== -/
def gas (Sx : Int → Prop) (σ : mi_Sg) (n : Int) : Prop := Sx n ∧ mi_sA σ 13 n = 2 * mi_sF σ 9 11 + 1
theorem ga_E_T {Sx : Int → Prop} {x0 : Int} {σ0 σ : mi_Sg} {T : Int → tr} (E : ga_E Sx x0 σ0 σ) (H : ty_T σ0 Sx T) : ty_T σ (gas Sx σ) T := by
  have HT := ty_T_14 E.1 H
  obtain ⟨pos, -, ⟨-, B, -, -⟩, -⟩ := E.2.2.1
  refine ⟨HT.1, fun n hn => ?_⟩
  obtain ⟨g1, g2, g3, g4, g5, g6, g7⟩ := HT.2 n hn.1
  refine ⟨g1, g2, g3, fun k k0 k1 => ?_, g5, g6, g7⟩
  rcases g4 k k0 k1 with q | q
  · exact Or.inl q
  · rcases (B n g1.1 g1.2 hn.2).2.2.2 k k0 k1 with w | w
    · exact Or.inl w
    · exact Or.inr ⟨q, w.1⟩
theorem ga_E_0 {Sx : Int → Prop} {x0 : Int} {σ0 σ : mi_Sg} {T : Int → tr} (E : ga_E Sx x0 σ0 σ) (H : ty_T σ0 Sx T) (L : ∀ j, 0 ≤ j → j < mi_sF σ 9 10 → mi_sA σ 14 (mi_sA σ 15 j) = 0) (v : Int) (hv : gas Sx σ v) : mi_sA σ 14 v = 0 := by
  obtain ⟨pos, -, ⟨-, B, -, -⟩, -⟩ := E.2.2.1
  have g1 := ((ga_E_T E H).2 v hv).1
  obtain ⟨⟨b0, b1⟩, b2, -⟩ := B v g1.1 g1.2 hv.2
  have := L _ b0 b1
  rw [b2] at this
  exact this
theorem wr_put_r {X : mi_X} {d : Nat} {h0 : mi_H} {Q : mi_Z → Prop} {Sx : Int → Prop} {T : Int → tr} {σ0 σ2 : mi_Sg} {nd x0 : Int} (E : ga_E Sx x0 σ0 σ2) (Z : ty_Z σ0) (H : ty_T σ0 Sx T) (u0 : 0 < mi_sF σ0 9 8) (KX : ∀ σ, ga_L (fun _ => 0) σ2 σ (mi_sF σ2 9 10) → ∀ h, ty_H h σ → mi_Fm h0 h → mi_wp X (d + 8) mi_M159 48 [(2, .int (Int32.ofInt (mi_sF σ2 9 10))), (0, .ref 52), (1, .int (Int32.ofInt nd))] [] h 0 0 Q) : ∀ (m : Nat) (σ : mi_Sg) (i : Int), (mi_sF σ2 9 10 - i).toNat = m → 0 ≤ i → i ≤ mi_sF σ2 9 10 → ga_L (fun _ => 0) σ2 σ i → ∀ h, ty_H h σ → mi_Fm h0 h → mi_wp X (d + 8) mi_M159 15 [(2, .int (Int32.ofInt i)), (0, .ref 52), (1, .int (Int32.ofInt nd))] [] h 0 0 Q := by
  intro m
  induction m using Nat.strongRecOn with
  | ind m ih =>
    intro σ i hm hi0 hi1 G h S fr
    have hu := ty_H_u S
    have e8 := G.1.2.2 9 8 (by decide)
    have e8b := E.1.2.2 9 8 (by decide)
    have e10 := G.1.2.2 9 10 (by decide)
    have hg := ga_E_g E u0
    have F0 := sg_Af_tr E.1 (sg_Af_w G.1 (by decide) (by decide))
    by_cases hi : i < mi_sF σ 9 10
    · obtain ⟨⟨n1, n2⟩, n3, -⟩ := ga_L_n E Z G hi0 hi rfl
      have nr := ((ty_T_14 F0 H).2 _ n3).2.1
      refine mi_wp_p (pc' := 16) (st' := [.int (Int32.ofInt i)]) rfl rfl rfl ?_
      refine mi_wp_p (pc' := 17) (st' := [.ref 52, .int (Int32.ofInt i)]) rfl rfl rfl ?_
      refine ty_s_gr S rfl rfl rfl (List.mem_of_getElem? (i := 64) rfl) ?_
      refine ty_s_ci rfl rfl rfl rfl rfl rfl (mi_cal_v2 (np := 0) (args := [.ref 9]) (rest := [.int (Int32.ofInt i)]) rfl rfl rfl rfl rfl (Nat.le_of_ble_eq_true rfl) rfl rfl (Nat.le_of_ble_eq_true rfl) (ty_rcS S (List.mem_of_getElem? (i := 5) rfl))) (Nat.le_of_ble_eq_true rfl) S ty_gathered ?_
      intro x hh σu S f P
      obtain ⟨e1, e2⟩ := P
      rw [e2] at S
      rw [e1]
      clear e1 e2
      replace fr := mi_Fm_tr fr f
      refine mi_s_if2 (t := 48) rfl rfl rfl (by unfold mi_R; omega) (by unfold mi_R; omega) (fun hc_ => absurd (show (mi_sF σ 9 10) ≤ i from hc_) (by omega)) (fun _ => ?_)
      refine mi_wp_p (pc' := 27) (st' := [.ref 52]) rfl rfl rfl ?_
      refine ty_s_gr S rfl rfl rfl (List.mem_of_getElem? (i := 64) rfl) ?_
      refine mi_wp_p (pc' := 31) (st' := [.ref 52, .ref 9]) rfl rfl rfl ?_
      refine ty_s_gr S rfl rfl rfl (List.mem_of_getElem? (i := 64) rfl) ?_
      refine mi_wp_p (pc' := 35) (st' := [.int (Int32.ofInt i), .ref 9, .ref 9]) rfl rfl rfl ?_
      refine ty_s_ci rfl rfl rfl rfl rfl rfl (mi_cal_v2 (np := 1) (args := [.ref 9, .int (Int32.ofInt i)]) (rest := [.ref 9]) rfl rfl rfl rfl rfl (Nat.le_of_ble_eq_true rfl) rfl rfl (Nat.le_of_ble_eq_true rfl) (ty_rcS S (List.mem_of_getElem? (i := 5) rfl))) (Nat.le_of_ble_eq_true rfl) S (ty_gatheredAt hi0 hi (by omega)) ?_
      intro x hh σu S f P
      obtain ⟨e1, e2⟩ := P
      rw [e2] at S
      rw [e1]
      clear e1 e2
      replace fr := mi_Fm_tr fr f
      refine mi_wp_p (pc' := 39) (st' := [.int (Int32.ofInt 0), .int (Int32.ofInt (mi_sA σ 15 i)), .ref 9]) rfl rfl rfl ?_
      refine ty_s_cv rfl rfl rfl rfl rfl rfl (mi_cal_v2 (np := 2) (args := [.ref 9, .int (Int32.ofInt (mi_sA σ 15 i)), .int (Int32.ofInt 0)]) (rest := []) rfl rfl rfl rfl rfl (Nat.le_of_ble_eq_true rfl) rfl rfl (Nat.le_of_ble_eq_true rfl) (ty_rcS S (List.mem_of_getElem? (i := 5) rfl))) (Nat.le_of_ble_eq_true rfl) S (ty_setNote (by omega) n2) ?_
      intro hh σ3 S f P
      rw [nr] at P
      subst P
      replace fr := mi_Fm_tr fr f
      refine mi_s_inc (l' := [(2, .int (Int32.ofInt (i + 1))), (0, .ref 52), (1, .int (Int32.ofInt nd))]) rfl rfl rfl (by decide) rfl ?_
      refine mi_wp_p (pc' := 15) rfl rfl rfl ?_
      refine mi_wp_lw (l := [(2, .int (Int32.ofInt (i + 1))), (0, .ref 52), (1, .int (Int32.ofInt nd))]) (mi_lw_of (show List.Nodup [2, 0, 1] by decide) ⟨rfl, rfl, rfl, trivial⟩) ?_
      exact ih _ (by omega) _ (i + 1) rfl (by omega) (by omega) (ga_L_set E G hi0 hi rfl) _ S fr
    · obtain rfl : i = mi_sF σ2 9 10 := by omega
      refine mi_wp_p (pc' := 16) (st' := [.int (Int32.ofInt (mi_sF σ2 9 10))]) rfl rfl rfl ?_
      refine mi_wp_p (pc' := 17) (st' := [.ref 52, .int (Int32.ofInt (mi_sF σ2 9 10))]) rfl rfl rfl ?_
      refine ty_s_gr S rfl rfl rfl (List.mem_of_getElem? (i := 64) rfl) ?_
      refine ty_s_ci rfl rfl rfl rfl rfl rfl (mi_cal_v2 (np := 0) (args := [.ref 9]) (rest := [.int (Int32.ofInt (mi_sF σ2 9 10))]) rfl rfl rfl rfl rfl (Nat.le_of_ble_eq_true rfl) rfl rfl (Nat.le_of_ble_eq_true rfl) (ty_rcS S (List.mem_of_getElem? (i := 5) rfl))) (Nat.le_of_ble_eq_true rfl) S ty_gathered ?_
      intro x hh σu S f P
      obtain ⟨e1, e2⟩ := P
      rw [e2] at S
      rw [e1]
      clear e1 e2
      replace fr := mi_Fm_tr fr f
      refine mi_s_if2 (t := 48) rfl rfl rfl (by unfold mi_R; omega) (by unfold mi_R; omega) (fun _ => ?_) (fun hc_ => absurd (show (mi_sF σ 9 10) ≤ (mi_sF σ2 9 10) by omega) hc_)
      exact KX σ G _ S fr
theorem ph_end {X : mi_X} {d : Nat} {h0 : mi_H} {rt n : Int} {σ : mi_Sg} {P : Int → mi_Sg → Prop} (n0 : 0 ≤ n) (n1 : n < 1024) (p0 : mi_sF σ 52 4 = 0) (hP : P 1 σ) : PH X d h0 (fun z => ∃ v h' σ', z = (.inl v, h', 0, 0) ∧ ty_H h' σ' ∧ mi_Fm h0 h' ∧ ∃ x, v = some (.int (Int32.ofInt x)) ∧ P x σ') rt n σ := by
  intro h S fr
  refine mi_wp_p (pc' := 78) (st' := [.int (Int32.ofInt n)]) rfl rfl rfl ?_
  refine mi_s_k (pc' := 81) (e := 1024) rfl rfl rfl (by decide +kernel) ?_
  refine mi_s_if2 (t := 135) rfl rfl rfl (by unfold mi_R; omega) (by unfold mi_R; omega) (fun hc_ => absurd (show 1024 ≤ n from hc_) (by omega)) (fun _ => ?_)
  refine mi_wp_p (pc' := 85) (st' := [.ref 52]) rfl rfl rfl ?_
  refine ty_s_gf (x := mi_sF σ 52 4) S rfl rfl rfl (List.mem_of_getElem? (i := 27) rfl) rfl ?_
  refine mi_s_if1 (t := 135) rfl rfl rfl (by unfold mi_R; omega) (fun _ => ?_) (fun hc_ => absurd (show (mi_sF σ 52 4) ≤ 0 by omega) hc_)
  refine mi_wp_p (pc' := 136) (st' := [.int (Int32.ofInt 1)]) rfl rfl rfl ?_
  exact ty_s_ret S fr rfl rfl rfl rfl ⟨_, rfl, hP⟩
theorem wr_put_w {X : mi_X} {d : Nat} {h0 : mi_H} {σ σ1 σ2 : mi_Sg} {Sx : Int → Prop} {T : Int → tr} {nd : Int} (Z : ty_Z σ) (hr : mi_sF σ 9 11 < 100000000) (H : ty_T σ Sx T) (G7 : tg7 σ Sx) (K : kb σ) (hz : 0 < nd) (h1 : nd < mi_sF σ 9 8) (hS0 : Sx (mi_sA σ 12 nd)) (hw : wl (T (mi_sA σ 12 nd)) ≤ 400) (hv : (tbt [] (T (mi_sA σ 12 nd))).2.length ≤ 26) (E2 : ga_E Sx (mi_sA σ 12 nd) σ σ2) (L : ∀ j, 0 ≤ j → j < mi_sF σ1 9 10 → mi_sA σ2 14 (mi_sA σ2 15 j) = 0) (g0 : 0 ≤ mi_sF σ1 9 10) (hu : 0 < mi_sF σ 9 8) (e10 : mi_sF σ2 9 10 = mi_sF σ1 9 10) : PH X d h0 (fun z => ∃ v h' σ', z = (.inl v, h', 0, 0) ∧ ty_H h' σ' ∧ mi_Fm h0 h' ∧ ∃ x, v = some (.int (Int32.ofInt x)) ∧ (x = 1 ∧ sg_Af [13, 14, 15, 16, 53, 54] [(9, 10), (9, 11), (52, 4), (52, 5), (52, 6)] σ σ' ∧ mi_sF σ' 9 11 = mi_sF σ 9 11 + 1 ∧ ty_Z σ' ∧ rwl σ' 53 5 (tbt [] (T (mi_sA σ 12 nd))).1)) nd 0 (wlt (mi_uF (mi_uF (mi_uF σ2 52 5 0) 52 6 0) 52 4 0) (mi_sA σ 12 nd)) := by
  have e8 : mi_sF σ2 9 8 = mi_sF σ 9 8 := E2.1.2.2 9 8 (by decide)
  have a10 : mi_sA σ2 10 = mi_sA σ 10 := sg_Af_Ak E2.1 (by decide)
  have HT := ga_E_T E2 H
  have r0 := (H.2 _ hS0).1
  have hg : gas Sx σ2 (mi_sA σ 12 nd) := ⟨hS0, E2.2.2.2.2.1.resolve_left (by omega)⟩
  have V2 : WV (gas Sx σ2) T σ2 := ⟨HT, ga_E_Z E2 Z, fun n hn => by rw [a10]; exact G7 n hn.1, by
    have hE : ∀ i, mi_sE σ2 18 i = mi_sE σ 18 i := fun i => by unfold mi_sE; rw [E2.1.1]
    unfold kb at K ⊢
    rw [E2.1.2.2 17 12 (by decide), hE, hE, hE, sg_Af_Ak E2.1 (k := 19) (by decide)]
    exact K⟩
  have F3 : FW σ2 (wlt (mi_uF (mi_uF (mi_uF σ2 52 5 0) 52 6 0) 52 4 0) (mi_sA σ 12 nd)) := sg_Af_F (sg_Af_A (sg_Af_F (sg_Af_F (sg_Af_F sg_Af_rf (by decide)) (by decide)) (by decide)) (by decide)) (by decide)
  have WS3 : WS (gas Sx σ2) (wlt (mi_uF (mi_uF (mi_uF σ2 52 5 0) 52 6 0) 52 4 0) (mi_sA σ 12 nd)) ([] ++ [mi_sA σ 12 nd]) [] [] := by
    refine (WS_wlt ⟨⟨rfl, fun i x hx => by simp at hx⟩, ⟨rfl, fun i x hx => by simp at hx⟩, ⟨rfl, fun v hv1 _ => ?_⟩⟩).1
    rw [if_neg (by simp)]
    exact ga_E_0 E2 H (fun j j0 j1 => L j j0 (by omega)) v hv1
  have t1 := tu_wl H G7 _ _ rfl hS0
  have t2 := tu_1 (T (mi_sA σ 12 nd))
  have t3 := tbt_wl (T (mi_sA σ 12 nd)) []
  refine WE_all (d := d) (Sx := gas Sx σ2) (T := T) _ _ rfl _ 0 (mi_sA σ 12 nd) [] [] [] (WV_f F3 V2) hg rfl WS3 (Int.le_refl _) (by omega) (by simp only [List.length_nil]; omega) (by simp only [List.length_nil]; omega) hv (fun σ' F w => ?_)
  rw [List.nil_append] at w
  have F4 := FW_tr F3 F
  refine ph_end (P := fun x σ' => x = 1 ∧ sg_Af [13, 14, 15, 16, 53, 54] [(9, 10), (9, 11), (52, 4), (52, 5), (52, 6)] σ σ' ∧ mi_sF σ' 9 11 = mi_sF σ 9 11 + 1 ∧ ty_Z σ' ∧ rwl σ' 53 5 (tbt [] (T (mi_sA σ 12 nd))).1) (by omega) (by omega) (by rw [w.1.1]; rfl) ⟨rfl, sg_Af_tr (sg_Af_w E2.1 (by decide) (by decide)) (sg_Af_w F4 (by decide) (by decide)), ?_, (WV_f F4 V2).2.1, w.2.1⟩
  rw [F4.2.2 9 11 (by decide)]
  exact E2.2.1
theorem wr_put1 {X : mi_X} {d : Nat} {σ : mi_Sg} {Sx : Int → Prop} {T : Int → tr} {nd : Int} (Z : ty_Z σ) (hr : mi_sF σ 9 11 < 100000000) (H : ty_T σ Sx T) (G7 : tg7 σ Sx) (K : kb σ) (hz : 0 < nd) (h1 : nd < mi_sF σ 9 8) (hS0 : Sx (mi_sA σ 12 nd)) (hw : wl (T (mi_sA σ 12 nd)) ≤ 400) (hv : (tbt [] (T (mi_sA σ 12 nd))).2.length ≤ 26) : ty_Ci X (d + 8) mi_M159 [(0, .ref 52), (1, .int (Int32.ofInt nd))] σ (fun x σ' => x = 1 ∧ sg_Af [13, 14, 15, 16, 53, 54] [(9, 10), (9, 11), (52, 4), (52, 5), (52, 6)] σ σ' ∧ mi_sF σ' 9 11 = mi_sF σ 9 11 + 1 ∧ ty_Z σ' ∧ rwl σ' 53 5 (tbt [] (T (mi_sA σ 12 nd))).1) := by
  intro h S
  have fr := mi_Fm_rf h
  have hu := ty_H_u S
  have hw2 : wln (T (mi_sA σ 12 nd)) ≤ 400 := by unfold wln; omega
  have hnd := h1
  refine mi_wp_p (pc' := 1) (st' := [.ref 52]) rfl rfl rfl ?_
  refine mi_wp_p (pc' := 2) (st' := [.int (Int32.ofInt nd), .ref 52]) rfl rfl rfl ?_
  refine ty_s_ci rfl rfl rfl rfl rfl rfl (mi_cal_v2 (np := 1) (args := [.ref 52, .int (Int32.ofInt nd)]) (rest := []) rfl rfl rfl rfl rfl (Nat.le_of_ble_eq_true rfl) rfl rfl (Nat.le_of_ble_eq_true rfl) (ty_rcS S (List.mem_of_getElem? (i := 27) rfl))) (Nat.le_of_ble_eq_true rfl) S (wr_len (d := d + 3) Z hr H G7 K hz h1 hS0) ?_
  intro x hh σ1 S f P
  obtain ⟨e1, E⟩ := P
  rw [e1]
  clear e1
  have ew := wln_0 (T (mi_sA σ 12 nd))
  replace fr := mi_Fm_tr fr f
  refine mi_s_k (pc' := 8) (e := 400) rfl rfl rfl (by decide +kernel) ?_
  refine mi_s_if2 (t := 13) rfl rfl rfl (by unfold mi_R; omega) (by unfold mi_R; omega) (fun _ => ?_) (fun hc_ => absurd (show (wln (T (mi_sA σ 12 nd))) ≤ 400 by omega) hc_)
  refine mi_wp_p (pc' := 14) (st' := [.int (Int32.ofInt 0)]) rfl rfl rfl ?_
  refine mi_wp_p (pc' := 15) (l' := [(2, .int (Int32.ofInt 0)), (0, .ref 52), (1, .int (Int32.ofInt nd))]) (st' := []) rfl rfl rfl ?_
  refine mi_wp_lw (l := [(2, .int (Int32.ofInt 0)), (0, .ref 52), (1, .int (Int32.ofInt nd))]) (mi_lw_of (show List.Nodup [2, 0, 1] by decide) ⟨rfl, rfl, rfl, trivial⟩) ?_
  have u0 : 0 < mi_sF σ 9 8 := by omega
  refine wr_put_r (x0 := mi_sA σ 12 nd) E Z H u0 ?_ _ σ1 0 rfl (Int.le_refl _) (ga_E_g E u0).1 (ga_L_0 E) _ S fr
  clear S fr
  intro σ2 G h S fr
  have E2 := ga_L_E E G
  have e8 : mi_sF σ2 9 8 = mi_sF σ 9 8 := E2.1.2.2 9 8 (by decide)
  have e12 : mi_sA σ2 12 = mi_sA σ 12 := sg_Af_Ak E2.1 (by decide)
  refine mi_wp_p (pc' := 49) (st' := [.ref 52]) rfl rfl rfl ?_
  refine mi_wp_p (pc' := 50) (st' := [.int (Int32.ofInt 0), .ref 52]) rfl rfl rfl ?_
  refine ty_s_pf S rfl rfl rfl (List.mem_of_getElem? (i := 28) rfl) (by decide) mi_fit_int (Or.inl rfl) ?_
  intro h1 S f
  replace fr := mi_Fm_tr fr f
  refine mi_wp_p (pc' := 54) (st' := [.ref 52]) rfl rfl rfl ?_
  refine mi_wp_p (pc' := 55) (st' := [.int (Int32.ofInt 0), .ref 52]) rfl rfl rfl ?_
  refine ty_s_pf S rfl rfl rfl (List.mem_of_getElem? (i := 29) rfl) (by decide) mi_fit_int (Or.inl rfl) ?_
  intro h2 S f
  replace fr := mi_Fm_tr fr f
  refine mi_wp_p (pc' := 59) (st' := [.ref 52]) rfl rfl rfl ?_
  refine mi_wp_p (pc' := 60) (st' := [.int (Int32.ofInt 0), .ref 52]) rfl rfl rfl ?_
  refine ty_s_pf S rfl rfl rfl (List.mem_of_getElem? (i := 27) rfl) (by decide) mi_fit_int (Or.inl rfl) ?_
  intro h3 S f
  replace fr := mi_Fm_tr fr f
  refine mi_wp_p (pc' := 64) (st' := [.ref 52]) rfl rfl rfl ?_
  refine mi_wp_p (pc' := 65) (st' := [.ref 52, .ref 52]) rfl rfl rfl ?_
  refine ty_s_gr S rfl rfl rfl (List.mem_of_getElem? (i := 64) rfl) ?_
  refine mi_wp_p (pc' := 69) (st' := [.int (Int32.ofInt nd), .ref 9, .ref 52]) rfl rfl rfl ?_
  refine ty_s_ci rfl rfl rfl rfl rfl rfl (mi_cal_v2 (np := 1) (args := [.ref 9, .int (Int32.ofInt nd)]) (rest := [.ref 52]) rfl rfl rfl rfl rfl (Nat.le_of_ble_eq_true rfl) rfl rfl (Nat.le_of_ble_eq_true rfl) (ty_rcS S (List.mem_of_getElem? (i := 5) rfl))) (Nat.le_of_ble_eq_true rfl) S (ty_find2 (σ := (mi_uF (mi_uF (mi_uF σ2 52 5 0) 52 6 0) 52 4 0)) (Int.le_of_lt hz) (by show nd < mi_sF σ2 9 8; omega)) ?_
  intro x hh σu S f P
  obtain ⟨g1, g2⟩ := P
  rw [g2] at S
  replace g1 : x = mi_sA σ2 12 nd := g1
  rw [e12] at g1
  rw [g1]
  clear g1 g2
  replace fr := mi_Fm_tr fr f
  refine ty_s_cv rfl rfl rfl rfl rfl rfl (mi_cal_v2 (np := 1) (args := [.ref 52, .int (Int32.ofInt (mi_sA σ 12 nd))]) (rest := []) rfl rfl rfl rfl rfl (Nat.le_of_ble_eq_true rfl) rfl rfl (Nat.le_of_ble_eq_true rfl) (ty_rcS S (List.mem_of_getElem? (i := 27) rfl))) (Nat.le_of_ble_eq_true rfl) S (wr_later (σ := (mi_uF (mi_uF (mi_uF σ2 52 5 0) 52 6 0) 52 4 0)) (Int.le_refl _) (by show (0 : Int) < 1024; omega)) ?_
  intro hh σ3 S f P
  subst P
  replace fr := mi_Fm_tr fr f
  refine mi_wp_p (pc' := 76) (st' := [.int (Int32.ofInt 0)]) rfl rfl rfl ?_
  refine mi_wp_p (pc' := 77) (l' := [(2, .int (Int32.ofInt 0)), (0, .ref 52), (1, .int (Int32.ofInt nd))]) (st' := []) rfl rfl rfl ?_
  refine mi_wp_lw (l := [(2, .int (Int32.ofInt 0)), (0, .ref 52), (1, .int (Int32.ofInt nd))]) (mi_lw_of (show List.Nodup [2, 0, 1] by decide) ⟨rfl, rfl, rfl, trivial⟩) ?_
  exact wr_put_w Z hr H G7 K hz hnd hS0 hw hv E2 G.2 (ga_E_g E u0).1 (by omega) (G.1.2.2 9 10 (by decide)) _ S fr
theorem wr_put0 {X : mi_X} {σ : mi_Sg} {d : Nat} {Sx : Int → Prop} {T : Int → tr} {nd : Int} (Z : ty_Z σ) (hr : mi_sF σ 9 11 < 100000000) (H : ty_T σ Sx T) (G7 : tg7 σ Sx) (K : kb σ) (hz : 0 < nd) (h1 : nd < mi_sF σ 9 8) (hS0 : Sx (mi_sA σ 12 nd)) (hw : 400 < wl (T (mi_sA σ 12 nd))) : ty_Ci X (d + 8) mi_M159 [(0, .ref 52), (1, .int (Int32.ofInt nd))] σ (fun x σ' => x = 0 ∧ ty_M σ σ') := by
  intro h S
  have fr := mi_Fm_rf h
  have hw2 : 400 < wln (T (mi_sA σ 12 nd)) := by unfold wln; omega
  have hw3 : wln (T (mi_sA σ 12 nd)) ≤ 1000000 := by unfold wln; omega
  refine mi_wp_p (pc' := 1) (st' := [.ref 52]) rfl rfl rfl ?_
  refine mi_wp_p (pc' := 2) (st' := [.int (Int32.ofInt nd), .ref 52]) rfl rfl rfl ?_
  refine ty_s_ci rfl rfl rfl rfl rfl rfl (mi_cal_v2 (np := 1) (args := [.ref 52, .int (Int32.ofInt nd)]) (rest := []) rfl rfl rfl rfl rfl (Nat.le_of_ble_eq_true rfl) rfl rfl (Nat.le_of_ble_eq_true rfl) (ty_rcS S (List.mem_of_getElem? (i := 27) rfl))) (Nat.le_of_ble_eq_true rfl) S (wr_len (d := d + 3) Z hr H G7 K hz h1 hS0) ?_
  intro x hh σ1 S f P
  obtain ⟨e1, E⟩ := P
  rw [e1]
  clear e1
  have ew := wln_0 (T (mi_sA σ 12 nd))
  replace fr := mi_Fm_tr fr f
  refine mi_s_k (pc' := 8) (e := 400) rfl rfl rfl (by decide +kernel) ?_
  refine mi_s_if2 (t := 13) rfl rfl rfl (by unfold mi_R; omega) (by unfold mi_R; omega) (fun hc_ => absurd (show (wln (T (mi_sA σ 12 nd))) ≤ 400 from hc_) (by omega)) (fun _ => ?_)
  refine mi_wp_p (pc' := 12) (st' := [.int (Int32.ofInt 0)]) rfl rfl rfl ?_
  exact ty_s_ret S fr rfl rfl rfl rfl ⟨_, rfl, ⟨rfl, ga_E_M E Z⟩⟩
