/-! ===== Checker, each method from what it calls (printed by wip/gen/p_check.py) ===== -/
theorem mi_fit_long {x : Int64} : mi_fit .long (.long x) = true := by
  unfold mi_fit
  simp [narrow, fits]
theorem nr_at {σ : mi_Sg} {size x i : Int} {key : Int64} (P : nr_P σ size key x) (h0 : 0 ≤ i) (h1 : i < size) (h2 : mi_sE σ 45 i = key) (h3 : ∀ j, i < j → j < size → mi_sE σ 45 j ≠ key) : x = i := by
  rcases P with ⟨⟨a, b⟩, c, e⟩ | ⟨-, e⟩
  · rcases Int.lt_trichotomy x i with q | q | q
    · exact absurd h2 (e i q h1)
    · exact q
    · exact absurd c (h3 x q b)
  · exact absurd h2 (e i h0 h1)
theorem nr_no {σ : mi_Sg} {size x : Int} {key : Int64} (P : nr_P σ size key x) (h3 : ∀ j, 0 ≤ j → j < size → mi_sE σ 45 j ≠ key) : x = -1 := by
  rcases P with ⟨⟨a, b⟩, c, e⟩ | ⟨q, -⟩
  · exact absurd c (h3 x a b)
  · exact q
theorem ty_C_mono {X : mi_X} {d : Nat} {M : mi_M} {l : mi_L} {σ : mi_Sg} {P Q : Option Value → mi_Sg → Prop} (H : ty_C X d M l σ P) (h : ∀ v σ', P v σ' → Q v σ') : ty_C X d M l σ Q := fun hp S => mi_wp_q (H hp S) (fun z hz => by
  obtain ⟨v, h', σ', a1, a2, a3, a4⟩ := hz
  exact ⟨v, h', σ', a1, a2, a3, h v σ' a4⟩)
theorem ty_Ci_m {X : mi_X} {d : Nat} {M : mi_M} {l : mi_L} {σ : mi_Sg} {P Q : Int → mi_Sg → Prop} (H : ty_Ci X d M l σ P) (h : ∀ x σ', P x σ' → Q x σ') : ty_Ci X d M l σ Q := ty_C_mono H (fun v σ' p => by
  obtain ⟨x, e, q⟩ := p
  exact ⟨x, e, h x σ' q⟩)
theorem ty_Cv_m {X : mi_X} {d : Nat} {M : mi_M} {l : mi_L} {σ : mi_Sg} {P Q : mi_Sg → Prop} (H : ty_Cv X d M l σ P) (h : ∀ σ', P σ' → Q σ') : ty_Cv X d M l σ Q := ty_C_mono H (fun v σ' p => ⟨p.1, h σ' p.2⟩)
theorem ck_leave {X : mi_X} {σ : mi_Sg} {d : Nat}  : ty_Cv X (d + 1) mi_M20 [(0, .ref 43)] σ (fun σ' => σ' = (mi_uF (mi_uF (mi_uF (mi_uF σ 44 3 0) 43 7 (-1)) 43 9 0) 43 10 0)) := by
  intro h S
  have fr := mi_Fm_rf h
  refine mi_wp_p (pc' := 1) (st' := [.ref 43]) rfl rfl rfl ?_
  refine ty_s_gr S rfl rfl rfl (List.mem_of_getElem? (i := 53) rfl) ?_
  refine ty_s_cv rfl rfl rfl rfl rfl rfl (mi_cal_v2 (np := 0) (args := [.ref 44]) (rest := []) rfl rfl rfl rfl rfl (Nat.le_of_ble_eq_true rfl) rfl rfl (Nat.le_of_ble_eq_true rfl) (ty_rcS S (List.mem_of_getElem? (i := 23) rfl))) (Nat.le_of_ble_eq_true rfl) S sc_clear ?_
  intro hh σ1 S f P
  subst P
  replace fr := mi_Fm_tr fr f
  refine mi_wp_p (pc' := 8) (st' := [.ref 43]) rfl rfl rfl ?_
  refine mi_wp_p (pc' := 9) (st' := [.int (Int32.ofInt (-1)), .ref 43]) rfl rfl rfl ?_
  refine ty_s_pf S rfl rfl rfl (List.mem_of_getElem? (i := 19) rfl) (by decide) mi_fit_int (Or.inl rfl) ?_
  intro h1 S f
  replace fr := mi_Fm_tr fr f
  refine mi_wp_p (pc' := 13) (st' := [.ref 43]) rfl rfl rfl ?_
  refine mi_wp_p (pc' := 14) (st' := [.int (Int32.ofInt 0), .ref 43]) rfl rfl rfl ?_
  refine ty_s_pf S rfl rfl rfl (List.mem_of_getElem? (i := 20) rfl) (by decide) mi_fit_int (Or.inl rfl) ?_
  intro h2 S f
  replace fr := mi_Fm_tr fr f
  refine mi_wp_p (pc' := 18) (st' := [.ref 43]) rfl rfl rfl ?_
  refine mi_wp_p (pc' := 19) (st' := [.int (Int32.ofInt 0), .ref 43]) rfl rfl rfl ?_
  refine ty_s_pf S rfl rfl rfl (List.mem_of_getElem? (i := 21) rfl) (by decide) mi_fit_int (Or.inl rfl) ?_
  intro h3 S f
  replace fr := mi_Fm_tr fr f
  exact ty_s_ret S fr rfl rfl rfl rfl ⟨rfl, rfl⟩
theorem ck_need26 {X : mi_X} {σ : mi_Sg} {d : Nat} {st type : Int} {P : mi_Sg → Prop} (hs : mi_sF σ 43 6 = 26) (h0 : 0 ≤ st) (h1 : st < mi_sF σ 26 7) (h2 : mi_sF σ 26 7 ≤ 1024) (H : ty_Ci X (d + 1) mi_M128 [(0, .ref 9), (1, .int (Int32.ofInt (mi_sA σ 33 st))), (2, .int (Int32.ofInt type))] σ (fun x σ' => x = 1 ∧ P σ')) : ty_Cv X (d + 2) mi_M21 [(0, .ref 43), (1, .int (Int32.ofInt st)), (2, .int (Int32.ofInt type))] σ (fun σ' => P σ') := by
  intro h S
  have fr := mi_Fm_rf h
  refine mi_wp_p (pc' := 1) (st' := [.ref 43]) rfl rfl rfl ?_
  refine ty_s_gr S rfl rfl rfl (List.mem_of_getElem? (i := 49) rfl) ?_
  refine mi_wp_p (pc' := 5) (st' := [.ref 43, .ref 9]) rfl rfl rfl ?_
  refine ty_s_gv (q := 26) S rfl rfl rfl (List.mem_of_getElem? (i := 1) rfl) hs ?_
  refine mi_wp_p (pc' := 9) (st' := [.int (Int32.ofInt st), .ref 26, .ref 9]) rfl rfl rfl ?_
  refine ty_s_ci rfl rfl rfl rfl rfl rfl (mi_cal_v2 (np := 1) (args := [.ref 26, .int (Int32.ofInt st)]) (rest := [.ref 9]) rfl rfl rfl rfl rfl (Nat.le_of_ble_eq_true rfl) rfl rfl (Nat.le_of_ble_eq_true rfl) (ty_rcS S (List.mem_of_getElem? (i := 16) rfl))) (Nat.le_of_ble_eq_true rfl) S (st26_typeOf h0 h1 h2) ?_
  intro x hh σu S f P
  obtain ⟨e1, e2⟩ := P
  rw [e2] at S
  rw [e1]
  clear e1 e2
  replace fr := mi_Fm_tr fr f
  refine mi_wp_p (pc' := 13) (st' := [.int (Int32.ofInt type), .int (Int32.ofInt (mi_sA σ 33 st)), .ref 9]) rfl rfl rfl ?_
  refine ty_s_ci rfl rfl rfl rfl rfl rfl (mi_cal_v2 (np := 2) (args := [.ref 9, .int (Int32.ofInt (mi_sA σ 33 st)), .int (Int32.ofInt type)]) (rest := []) rfl rfl rfl rfl rfl (Nat.le_of_ble_eq_true rfl) rfl rfl (Nat.le_of_ble_eq_true rfl) (ty_rcS S (List.mem_of_getElem? (i := 5) rfl))) (Nat.le_of_ble_eq_true rfl) S H ?_
  intro x hh σ1 S f P1
  obtain ⟨e1, P1⟩ := P1
  rw [e1]
  clear e1
  replace fr := mi_Fm_tr fr f
  refine mi_s_if1 (t := 35) rfl rfl rfl (by unfold mi_R; omega) (fun _ => ?_) (fun hc_ => absurd (show (1 : Int) ≠ 0 by omega) hc_)
  exact ty_s_ret S fr rfl rfl rfl rfl ⟨rfl, P1⟩
theorem ck_begin {X : mi_X} {σ : mi_Sg} {d : Nat} {a : Int} (t0 : 0 ≤ a) (t1 : a + 1 < mi_sF σ 3 7) (t2 : mi_sF σ 3 7 ≤ 301) (n0 : 0 ≤ mi_sF σ 17 14) (n1 : mi_sF σ 17 14 < 24) (nk : ∀ j, 0 ≤ j → j < mi_sF σ 17 14 → mi_sE σ 23 j ≠ mi_sE σ 8 (a + 1)) (hu : mi_sF σ 9 8 < 512) : ty_Cv X (d + 3) mi_M17 [(0, .ref 43), (1, .int (Int32.ofInt a))] σ (fun σ' => ∃ σ2, sg_Af [49, 50] [(48, 7), (48, 8), (48, 9)] (mi_uF (mi_uF (mi_uF (mi_uF σ 44 3 0) 43 7 (-1)) 43 9 0) 43 10 0) σ2 ∧ (∀ j, 0 ≤ j → j < 26 → mi_sA σ2 49 j = 0) ∧ mi_sF σ2 48 7 = 0 ∧ mi_sF σ2 48 9 = 0 ∧ σ' = (mi_uF (ty_mk (mi_uF (mi_uB σ2 43 8 (mi_sE σ2 8 (a + 1))) 43 7 (mi_sF σ2 17 14)) 3 0 0 0) 43 9 (mi_sF σ2 9 8))) := by
  intro h S
  have fr := mi_Fm_rf h
  refine mi_wp_p (pc' := 1) (st' := [.ref 43]) rfl rfl rfl ?_
  refine ty_s_cv rfl rfl rfl rfl rfl rfl (mi_cal_v2 (np := 0) (args := [.ref 43]) (rest := []) rfl rfl rfl rfl rfl (Nat.le_of_ble_eq_true rfl) rfl rfl (Nat.le_of_ble_eq_true rfl) (ty_rcS S (List.mem_of_getElem? (i := 19) rfl))) (Nat.le_of_ble_eq_true rfl) S ck_leave ?_
  intro hh σl S f P
  subst P
  replace fr := mi_Fm_tr fr f
  refine mi_wp_p (pc' := 5) (st' := [.ref 43]) rfl rfl rfl ?_
  refine ty_s_gr S rfl rfl rfl (List.mem_of_getElem? (i := 52) rfl) ?_
  refine ty_s_cv rfl rfl rfl rfl rfl rfl (mi_cal_v2 (np := 0) (args := [.ref 48]) (rest := []) rfl rfl rfl rfl rfl (Nat.le_of_ble_eq_true rfl) rfl rfl (Nat.le_of_ble_eq_true rfl) (ty_rcS S (List.mem_of_getElem? (i := 24) rfl))) (Nat.le_of_ble_eq_true rfl) S fo_beginForm ?_
  intro hh σ2 S f P
  obtain ⟨b1, b2, b3, b4⟩ := P
  have g7 : mi_sF σ2 3 7 = mi_sF σ 3 7 := b1.2.2 3 7 (by decide)
  have g14 : mi_sF σ2 17 14 = mi_sF σ 17 14 := b1.2.2 17 14 (by decide)
  have g8 : mi_sF σ2 9 8 = mi_sF σ 9 8 := b1.2.2 9 8 (by decide)
  have gE : ∀ k i, mi_sE σ2 k i = mi_sE σ k i := fun k i => by
    unfold mi_sE
    rw [b1.1]
    rfl
  replace fr := mi_Fm_tr fr f
  refine mi_wp_p (pc' := 12) (st' := [.ref 43]) rfl rfl rfl ?_
  refine mi_wp_p (pc' := 13) (st' := [.ref 43, .ref 43]) rfl rfl rfl ?_
  refine ty_s_gr S rfl rfl rfl (List.mem_of_getElem? (i := 48) rfl) ?_
  refine mi_wp_p (pc' := 17) (st' := [.int (Int32.ofInt a), .ref 3, .ref 43]) rfl rfl rfl ?_
  refine mi_wp_p (pc' := 18) (st' := [.int (Int32.ofInt 1), .int (Int32.ofInt a), .ref 3, .ref 43]) rfl rfl rfl ?_
  refine mi_s_add rfl rfl ?_
  refine ty_s_cj rfl rfl rfl rfl rfl rfl (mi_cal_v2 (np := 1) (args := [.ref 3, .int (Int32.ofInt (a + 1))]) (rest := [.ref 43]) rfl rfl rfl rfl rfl (Nat.le_of_ble_eq_true rfl) rfl rfl (Nat.le_of_ble_eq_true rfl) (ty_rcS S (List.mem_of_getElem? (i := 3) rfl))) (Nat.le_of_ble_eq_true rfl) S (to_keyOf (a := a + 1) (by omega) (by show a + 1 < mi_sF σ2 3 7; omega) (by show mi_sF σ2 3 7 ≤ 301; omega)) ?_
  intro x hh σu S f P
  obtain ⟨e1, e2⟩ := P
  rw [e2] at S
  rw [e1]
  clear e1 e2
  replace fr := mi_Fm_tr fr f
  refine ty_s_pj S rfl rfl rfl (List.mem_of_getElem? (i := 0) rfl) (by decide) mi_fit_long (Or.inl rfl) ?_
  intro h4 S f
  replace fr := mi_Fm_tr fr f
  refine mi_wp_p (pc' := 26) (st' := [.ref 43]) rfl rfl rfl ?_
  refine ty_s_gr S rfl rfl rfl (List.mem_of_getElem? (i := 50) rfl) ?_
  refine ty_s_ci rfl rfl rfl rfl rfl rfl (mi_cal_v2 (np := 0) (args := [.ref 17]) (rest := []) rfl rfl rfl rfl rfl (Nat.le_of_ble_eq_true rfl) rfl rfl (Nat.le_of_ble_eq_true rfl) (ty_rcS S (List.mem_of_getElem? (i := 10) rfl))) (Nat.le_of_ble_eq_true rfl) S (kn_definitionsFull (by show 0 ≤ mi_sF σ2 17 14; omega) (by show mi_sF σ2 17 14 < 24; omega)) ?_
  intro x hh σu S f P
  obtain ⟨e1, e2⟩ := P
  rw [e2] at S
  rw [e1]
  clear e1 e2
  replace fr := mi_Fm_tr fr f
  refine mi_s_if1 (t := 41) rfl rfl rfl (by unfold mi_R; omega) (fun _ => ?_) (fun hc_ => absurd (show (0 : Int) = 0 by omega) hc_)
  refine mi_wp_p (pc' := 42) (st' := [.ref 43]) rfl rfl rfl ?_
  refine ty_s_gr S rfl rfl rfl (List.mem_of_getElem? (i := 50) rfl) ?_
  refine mi_wp_p (pc' := 46) (st' := [.ref 43, .ref 17]) rfl rfl rfl ?_
  refine ty_s_gj (x := mi_sE σ2 8 (a + 1)) S rfl rfl rfl (List.mem_of_getElem? (i := 0) rfl) rfl ?_
  refine ty_s_ci rfl rfl rfl rfl rfl rfl (mi_cal_v2 (np := 1) (args := [.ref 17, .long (mi_sE σ2 8 (a + 1))]) (rest := []) rfl rfl rfl rfl rfl (Nat.le_of_ble_eq_true rfl) rfl rfl (Nat.le_of_ble_eq_true rfl) (ty_rcS S (List.mem_of_getElem? (i := 10) rfl))) (Nat.le_of_ble_eq_true rfl) S (kn_definitionNumber (by show 0 ≤ mi_sF σ2 17 14; omega) (by show mi_sF σ2 17 14 ≤ 24; omega)) ?_
  intro x hh σu S f P
  obtain ⟨P, e2⟩ := P
  rw [e2] at S
  obtain rfl : x = -1 := pl_no P (fun j j0 j1 => by
    show mi_sE σ2 23 j ≠ _
    rw [gE, gE]
    exact nk j j0 (by have q : j < mi_sF σ2 17 14 := j1; omega))
  clear P e2
  replace fr := mi_Fm_tr fr f
  refine mi_wp_p (pc' := 53) (st' := [.int (Int32.ofInt (-1)), .int (Int32.ofInt (-1))]) rfl rfl rfl ?_
  refine mi_s_if2 (t := 64) rfl rfl rfl (by unfold mi_R; omega) (by unfold mi_R; omega) (fun _ => ?_) (fun hc_ => absurd (show ((-1) : Int) = (-1) by omega) hc_)
  refine mi_wp_p (pc' := 65) (st' := [.ref 43]) rfl rfl rfl ?_
  refine mi_wp_p (pc' := 66) (st' := [.ref 43, .ref 43]) rfl rfl rfl ?_
  refine ty_s_gr S rfl rfl rfl (List.mem_of_getElem? (i := 50) rfl) ?_
  refine ty_s_ci rfl rfl rfl rfl rfl rfl (mi_cal_v2 (np := 0) (args := [.ref 17]) (rest := [.ref 43]) rfl rfl rfl rfl rfl (Nat.le_of_ble_eq_true rfl) rfl rfl (Nat.le_of_ble_eq_true rfl) (ty_rcS S (List.mem_of_getElem? (i := 10) rfl))) (Nat.le_of_ble_eq_true rfl) S kn_definitions ?_
  intro x hh σu S f P
  obtain ⟨e1, e2⟩ := P
  rw [e2] at S
  rw [e1]
  clear e1 e2
  replace fr := mi_Fm_tr fr f
  refine ty_s_pf S rfl rfl rfl (List.mem_of_getElem? (i := 19) rfl) (by decide) mi_fit_int (Or.inl rfl) ?_
  intro h5 S f
  replace fr := mi_Fm_tr fr f
  refine mi_wp_p (pc' := 76) (st' := [.ref 43]) rfl rfl rfl ?_
  refine mi_wp_p (pc' := 77) (st' := [.ref 43, .ref 43]) rfl rfl rfl ?_
  refine ty_s_gr S rfl rfl rfl (List.mem_of_getElem? (i := 49) rfl) ?_
  refine ty_s_ci rfl rfl rfl rfl rfl rfl (mi_cal_v2 (np := 0) (args := [.ref 9]) (rest := [.ref 43]) rfl rfl rfl rfl rfl (Nat.le_of_ble_eq_true rfl) rfl rfl (Nat.le_of_ble_eq_true rfl) (ty_rcS S (List.mem_of_getElem? (i := 5) rfl))) (Nat.le_of_ble_eq_true rfl) S (ty_unknown (by show mi_sF σ2 9 8 < 512; omega)) ?_
  intro x hh σ3 S f P
  obtain ⟨e1, e2⟩ := P
  subst e2
  rw [e1]
  clear e1
  replace fr := mi_Fm_tr fr f
  refine ty_s_pf S rfl rfl rfl (List.mem_of_getElem? (i := 20) rfl) (by decide) mi_fit_int (Or.inl rfl) ?_
  intro h6 S f
  replace fr := mi_Fm_tr fr f
  exact ty_s_ret S fr rfl rfl rfl rfl ⟨rfl, ⟨σ2, b1, b2, b3, b4, rfl⟩⟩
theorem ck_name_fix {X : mi_X} {σ : mi_Sg} {d : Nat} {a i : Int} (t0 : 0 ≤ a) (t1 : a < mi_sF σ 3 7) (t2 : mi_sF σ 3 7 ≤ 301) (z0 : 0 ≤ mi_sF σ 44 3) (z1 : mi_sF σ 44 3 ≤ 300) (i0 : 0 ≤ i) (i1 : i < mi_sF σ 44 3) (i2 : mi_sE σ 45 i = mi_sE σ 8 a) (i3 : ∀ j, i < j → j < mi_sF σ 44 3 → mi_sE σ 45 j ≠ mi_sE σ 8 a) (i4 : mi_sA σ 47 i = 0) : ty_Ci X (d + 1) mi_M26 [(0, .ref 43), (1, .int (Int32.ofInt a))] σ (fun x σ' => x = mi_sA σ 46 i ∧ σ' = σ) := by
  intro h S
  have fr := mi_Fm_rf h
  refine mi_wp_p (pc' := 1) (st' := [.ref 43]) rfl rfl rfl ?_
  refine ty_s_gr S rfl rfl rfl (List.mem_of_getElem? (i := 48) rfl) ?_
  refine mi_wp_p (pc' := 5) (st' := [.int (Int32.ofInt a), .ref 3]) rfl rfl rfl ?_
  refine ty_s_cj rfl rfl rfl rfl rfl rfl (mi_cal_v2 (np := 1) (args := [.ref 3, .int (Int32.ofInt a)]) (rest := []) rfl rfl rfl rfl rfl (Nat.le_of_ble_eq_true rfl) rfl rfl (Nat.le_of_ble_eq_true rfl) (ty_rcS S (List.mem_of_getElem? (i := 3) rfl))) (Nat.le_of_ble_eq_true rfl) S (to_keyOf t0 t1 t2) ?_
  intro x hh σu S f P
  obtain ⟨e1, e2⟩ := P
  rw [e2] at S
  rw [e1]
  clear e1 e2
  replace fr := mi_Fm_tr fr f
  refine mi_wp_p (pc' := 9) (l' := [(2, .long (mi_sE σ 8 a)), (0, .ref 43), (1, .int (Int32.ofInt a))]) (st' := []) rfl rfl rfl ?_
  refine mi_wp_p (pc' := 10) (st' := [.ref 43]) rfl rfl rfl ?_
  refine ty_s_gr S rfl rfl rfl (List.mem_of_getElem? (i := 53) rfl) ?_
  refine mi_wp_p (pc' := 14) (st' := [.long (mi_sE σ 8 a), .ref 44]) rfl rfl rfl ?_
  refine ty_s_ci rfl rfl rfl rfl rfl rfl (mi_cal_v2 (np := 1) (args := [.ref 44, .long (mi_sE σ 8 a)]) (rest := []) rfl rfl rfl rfl rfl (Nat.le_of_ble_eq_true rfl) rfl rfl (Nat.le_of_ble_eq_true rfl) (ty_rcS S (List.mem_of_getElem? (i := 23) rfl))) (Nat.le_of_ble_eq_true rfl) S (sc_nearest z0 z1) ?_
  intro x hh σu S f P
  obtain ⟨P, e2⟩ := P
  rw [e2] at S
  obtain e3 : x = i := nr_at P i0 i1 i2 i3
  rw [e3]
  clear P e2 e3 x
  replace fr := mi_Fm_tr fr f
  refine mi_wp_p (pc' := 19) (l' := [(4, .int (Int32.ofInt i)), (2, .long (mi_sE σ 8 a)), (0, .ref 43), (1, .int (Int32.ofInt a))]) (st' := []) rfl rfl rfl ?_
  refine mi_wp_p (pc' := 21) (st' := [.int (Int32.ofInt i)]) rfl rfl rfl ?_
  refine mi_s_if1 (t := 63) rfl rfl rfl (by unfold mi_R; omega) (fun hc_ => absurd (show i < 0 from hc_) (by omega)) (fun _ => ?_)
  refine mi_wp_p (pc' := 25) (st' := [.ref 43]) rfl rfl rfl ?_
  refine ty_s_gr S rfl rfl rfl (List.mem_of_getElem? (i := 53) rfl) ?_
  refine mi_wp_p (pc' := 30) (st' := [.int (Int32.ofInt i), .ref 44]) rfl rfl rfl ?_
  refine ty_s_ci rfl rfl rfl rfl rfl rfl (mi_cal_v2 (np := 1) (args := [.ref 44, .int (Int32.ofInt i)]) (rest := []) rfl rfl rfl rfl rfl (Nat.le_of_ble_eq_true rfl) rfl rfl (Nat.le_of_ble_eq_true rfl) (ty_rcS S (List.mem_of_getElem? (i := 23) rfl))) (Nat.le_of_ble_eq_true rfl) S (sc_typeOf i0 i1 z1) ?_
  intro x hh σu S f P
  obtain ⟨e1, e2⟩ := P
  rw [e2] at S
  rw [e1]
  clear e1 e2
  replace fr := mi_Fm_tr fr f
  refine mi_wp_p (pc' := 35) (l' := [(5, .int (Int32.ofInt (mi_sA σ 46 i))), (4, .int (Int32.ofInt i)), (2, .long (mi_sE σ 8 a)), (0, .ref 43), (1, .int (Int32.ofInt a))]) (st' := []) rfl rfl rfl ?_
  refine mi_wp_p (pc' := 36) (st' := [.ref 43]) rfl rfl rfl ?_
  refine ty_s_gr S rfl rfl rfl (List.mem_of_getElem? (i := 53) rfl) ?_
  refine mi_wp_p (pc' := 41) (st' := [.int (Int32.ofInt i), .ref 44]) rfl rfl rfl ?_
  refine ty_s_ci rfl rfl rfl rfl rfl rfl (mi_cal_v2 (np := 1) (args := [.ref 44, .int (Int32.ofInt i)]) (rest := []) rfl rfl rfl rfl rfl (Nat.le_of_ble_eq_true rfl) rfl rfl (Nat.le_of_ble_eq_true rfl) (ty_rcS S (List.mem_of_getElem? (i := 23) rfl))) (Nat.le_of_ble_eq_true rfl) S (sc_isGeneral0 i0 i1 z1 i4) ?_
  intro x hh σu S f P
  obtain ⟨e1, e2⟩ := P
  rw [e2] at S
  rw [e1]
  clear e1 e2
  replace fr := mi_Fm_tr fr f
  refine mi_s_if1 (t := 60) rfl rfl rfl (by unfold mi_R; omega) (fun _ => ?_) (fun hc_ => absurd (show (0 : Int) = 0 by omega) hc_)
  refine mi_wp_p (pc' := 62) (st' := [.int (Int32.ofInt (mi_sA σ 46 i))]) rfl rfl rfl ?_
  exact ty_s_ret S fr rfl rfl rfl (mi_ret_i rfl) ⟨_, rfl, ⟨rfl, rfl⟩⟩
theorem ck_name_gen {X : mi_X} {σ : mi_Sg} {d : Nat} {a i : Int} {P : Int → mi_Sg → Prop} (t0 : 0 ≤ a) (t1 : a < mi_sF σ 3 7) (t2 : mi_sF σ 3 7 ≤ 301) (z0 : 0 ≤ mi_sF σ 44 3) (z1 : mi_sF σ 44 3 ≤ 300) (i0 : 0 ≤ i) (i1 : i < mi_sF σ 44 3) (i2 : mi_sE σ 45 i = mi_sE σ 8 a) (i3 : ∀ j, i < j → j < mi_sF σ 44 3 → mi_sE σ 45 j ≠ mi_sE σ 8 a) (i4 : mi_sA σ 47 i = 1) (H : ty_Ci X d mi_M122 [(0, .ref 9), (1, .int (Int32.ofInt (mi_sA σ 46 i))), (2, .int (Int32.ofInt 0))] σ P) : ty_Ci X (d + 1) mi_M26 [(0, .ref 43), (1, .int (Int32.ofInt a))] σ (fun x σ' => P x σ') := by
  intro h S
  have fr := mi_Fm_rf h
  refine mi_wp_p (pc' := 1) (st' := [.ref 43]) rfl rfl rfl ?_
  refine ty_s_gr S rfl rfl rfl (List.mem_of_getElem? (i := 48) rfl) ?_
  refine mi_wp_p (pc' := 5) (st' := [.int (Int32.ofInt a), .ref 3]) rfl rfl rfl ?_
  refine ty_s_cj rfl rfl rfl rfl rfl rfl (mi_cal_v2 (np := 1) (args := [.ref 3, .int (Int32.ofInt a)]) (rest := []) rfl rfl rfl rfl rfl (Nat.le_of_ble_eq_true rfl) rfl rfl (Nat.le_of_ble_eq_true rfl) (ty_rcS S (List.mem_of_getElem? (i := 3) rfl))) (Nat.le_of_ble_eq_true rfl) S (to_keyOf t0 t1 t2) ?_
  intro x hh σu S f P
  obtain ⟨e1, e2⟩ := P
  rw [e2] at S
  rw [e1]
  clear e1 e2
  replace fr := mi_Fm_tr fr f
  refine mi_wp_p (pc' := 9) (l' := [(2, .long (mi_sE σ 8 a)), (0, .ref 43), (1, .int (Int32.ofInt a))]) (st' := []) rfl rfl rfl ?_
  refine mi_wp_p (pc' := 10) (st' := [.ref 43]) rfl rfl rfl ?_
  refine ty_s_gr S rfl rfl rfl (List.mem_of_getElem? (i := 53) rfl) ?_
  refine mi_wp_p (pc' := 14) (st' := [.long (mi_sE σ 8 a), .ref 44]) rfl rfl rfl ?_
  refine ty_s_ci rfl rfl rfl rfl rfl rfl (mi_cal_v2 (np := 1) (args := [.ref 44, .long (mi_sE σ 8 a)]) (rest := []) rfl rfl rfl rfl rfl (Nat.le_of_ble_eq_true rfl) rfl rfl (Nat.le_of_ble_eq_true rfl) (ty_rcS S (List.mem_of_getElem? (i := 23) rfl))) (Nat.le_of_ble_eq_true rfl) S (sc_nearest z0 z1) ?_
  intro x hh σu S f P
  obtain ⟨P, e2⟩ := P
  rw [e2] at S
  obtain e3 : x = i := nr_at P i0 i1 i2 i3
  rw [e3]
  clear P e2 e3 x
  replace fr := mi_Fm_tr fr f
  refine mi_wp_p (pc' := 19) (l' := [(4, .int (Int32.ofInt i)), (2, .long (mi_sE σ 8 a)), (0, .ref 43), (1, .int (Int32.ofInt a))]) (st' := []) rfl rfl rfl ?_
  refine mi_wp_p (pc' := 21) (st' := [.int (Int32.ofInt i)]) rfl rfl rfl ?_
  refine mi_s_if1 (t := 63) rfl rfl rfl (by unfold mi_R; omega) (fun hc_ => absurd (show i < 0 from hc_) (by omega)) (fun _ => ?_)
  refine mi_wp_p (pc' := 25) (st' := [.ref 43]) rfl rfl rfl ?_
  refine ty_s_gr S rfl rfl rfl (List.mem_of_getElem? (i := 53) rfl) ?_
  refine mi_wp_p (pc' := 30) (st' := [.int (Int32.ofInt i), .ref 44]) rfl rfl rfl ?_
  refine ty_s_ci rfl rfl rfl rfl rfl rfl (mi_cal_v2 (np := 1) (args := [.ref 44, .int (Int32.ofInt i)]) (rest := []) rfl rfl rfl rfl rfl (Nat.le_of_ble_eq_true rfl) rfl rfl (Nat.le_of_ble_eq_true rfl) (ty_rcS S (List.mem_of_getElem? (i := 23) rfl))) (Nat.le_of_ble_eq_true rfl) S (sc_typeOf i0 i1 z1) ?_
  intro x hh σu S f P
  obtain ⟨e1, e2⟩ := P
  rw [e2] at S
  rw [e1]
  clear e1 e2
  replace fr := mi_Fm_tr fr f
  refine mi_wp_p (pc' := 35) (l' := [(5, .int (Int32.ofInt (mi_sA σ 46 i))), (4, .int (Int32.ofInt i)), (2, .long (mi_sE σ 8 a)), (0, .ref 43), (1, .int (Int32.ofInt a))]) (st' := []) rfl rfl rfl ?_
  refine mi_wp_p (pc' := 36) (st' := [.ref 43]) rfl rfl rfl ?_
  refine ty_s_gr S rfl rfl rfl (List.mem_of_getElem? (i := 53) rfl) ?_
  refine mi_wp_p (pc' := 41) (st' := [.int (Int32.ofInt i), .ref 44]) rfl rfl rfl ?_
  refine ty_s_ci rfl rfl rfl rfl rfl rfl (mi_cal_v2 (np := 1) (args := [.ref 44, .int (Int32.ofInt i)]) (rest := []) rfl rfl rfl rfl rfl (Nat.le_of_ble_eq_true rfl) rfl rfl (Nat.le_of_ble_eq_true rfl) (ty_rcS S (List.mem_of_getElem? (i := 23) rfl))) (Nat.le_of_ble_eq_true rfl) S (sc_isGeneral1 i0 i1 z1 i4) ?_
  intro x hh σu S f P
  obtain ⟨e1, e2⟩ := P
  rw [e2] at S
  rw [e1]
  clear e1 e2
  replace fr := mi_Fm_tr fr f
  refine mi_s_if1 (t := 60) rfl rfl rfl (by unfold mi_R; omega) (fun hc_ => absurd (show (1 : Int) = 0 from hc_) (by omega)) (fun _ => ?_)
  refine mi_wp_p (pc' := 48) (st' := [.ref 43]) rfl rfl rfl ?_
  refine ty_s_gr S rfl rfl rfl (List.mem_of_getElem? (i := 49) rfl) ?_
  refine mi_wp_p (pc' := 53) (st' := [.int (Int32.ofInt (mi_sA σ 46 i)), .ref 9]) rfl rfl rfl ?_
  refine mi_wp_p (pc' := 54) (st' := [.int (Int32.ofInt 0), .int (Int32.ofInt (mi_sA σ 46 i)), .ref 9]) rfl rfl rfl ?_
  refine ty_s_ci rfl rfl rfl rfl rfl rfl (mi_cal_v2 (np := 2) (args := [.ref 9, .int (Int32.ofInt (mi_sA σ 46 i)), .int (Int32.ofInt 0)]) (rest := []) rfl rfl rfl rfl rfl (Nat.le_of_ble_eq_true rfl) rfl rfl (Nat.le_of_ble_eq_true rfl) (ty_rcS S (List.mem_of_getElem? (i := 5) rfl))) (Nat.le_of_ble_eq_true rfl) S H ?_
  intro x hh σ1 S f P1
  replace fr := mi_Fm_tr fr f
  refine mi_wp_p (pc' := 62) rfl rfl rfl ?_
  exact ty_s_ret S fr rfl rfl rfl (mi_ret_i rfl) ⟨_, rfl, P1⟩
theorem ck_name_def {X : mi_X} {σ : mi_Sg} {d : Nat} {a i : Int} {P : Int → mi_Sg → Prop} (t0 : 0 ≤ a) (t1 : a < mi_sF σ 3 7) (t2 : mi_sF σ 3 7 ≤ 301) (z0 : 0 ≤ mi_sF σ 44 3) (z1 : mi_sF σ 44 3 ≤ 300) (nn : ∀ j, 0 ≤ j → j < mi_sF σ 44 3 → mi_sE σ 45 j ≠ mi_sE σ 8 a) (k0 : 0 ≤ i) (k1 : i < mi_sF σ 17 14) (k2 : mi_sF σ 17 14 ≤ 24) (k3 : mi_sE σ 23 i = mi_sE σ 8 a) (k4 : ∀ j, 0 ≤ j → j < i → mi_sE σ 23 j ≠ mi_sE σ 8 a) (o0 : 0 ≤ mi_sF σ 43 7) (o1 : mi_sF σ 43 7 < 24) (o2 : mi_sE σ 8 a ≠ mi_sB σ 43 8) (H : ty_Ci X (d + 2) mi_M122 [(0, .ref 9), (1, .int (Int32.ofInt (mi_sA (mi_uA σ 25 (mi_sF σ 43 7 * 24 + i) (mi_sA σ 25 (mi_sF σ 43 7 * 24 + i) + 1)) 24 i))), (2, .int (Int32.ofInt 0))] (mi_uA σ 25 (mi_sF σ 43 7 * 24 + i) (mi_sA σ 25 (mi_sF σ 43 7 * 24 + i) + 1)) P) : ty_Ci X (d + 3) mi_M26 [(0, .ref 43), (1, .int (Int32.ofInt a))] σ (fun x σ' => P x σ') := by
  intro h S
  have fr := mi_Fm_rf h
  refine mi_wp_p (pc' := 1) (st' := [.ref 43]) rfl rfl rfl ?_
  refine ty_s_gr S rfl rfl rfl (List.mem_of_getElem? (i := 48) rfl) ?_
  refine mi_wp_p (pc' := 5) (st' := [.int (Int32.ofInt a), .ref 3]) rfl rfl rfl ?_
  refine ty_s_cj rfl rfl rfl rfl rfl rfl (mi_cal_v2 (np := 1) (args := [.ref 3, .int (Int32.ofInt a)]) (rest := []) rfl rfl rfl rfl rfl (Nat.le_of_ble_eq_true rfl) rfl rfl (Nat.le_of_ble_eq_true rfl) (ty_rcS S (List.mem_of_getElem? (i := 3) rfl))) (Nat.le_of_ble_eq_true rfl) S (to_keyOf t0 t1 t2) ?_
  intro x hh σu S f P
  obtain ⟨e1, e2⟩ := P
  rw [e2] at S
  rw [e1]
  clear e1 e2
  replace fr := mi_Fm_tr fr f
  refine mi_wp_p (pc' := 9) (l' := [(2, .long (mi_sE σ 8 a)), (0, .ref 43), (1, .int (Int32.ofInt a))]) (st' := []) rfl rfl rfl ?_
  refine mi_wp_p (pc' := 10) (st' := [.ref 43]) rfl rfl rfl ?_
  refine ty_s_gr S rfl rfl rfl (List.mem_of_getElem? (i := 53) rfl) ?_
  refine mi_wp_p (pc' := 14) (st' := [.long (mi_sE σ 8 a), .ref 44]) rfl rfl rfl ?_
  refine ty_s_ci rfl rfl rfl rfl rfl rfl (mi_cal_v2 (np := 1) (args := [.ref 44, .long (mi_sE σ 8 a)]) (rest := []) rfl rfl rfl rfl rfl (Nat.le_of_ble_eq_true rfl) rfl rfl (Nat.le_of_ble_eq_true rfl) (ty_rcS S (List.mem_of_getElem? (i := 23) rfl))) (Nat.le_of_ble_eq_true rfl) S (sc_nearest z0 z1) ?_
  intro x hh σu S f P
  obtain ⟨P, e2⟩ := P
  rw [e2] at S
  obtain e3 : x = -1 := nr_no P nn
  rw [e3]
  clear P e2 e3 x
  replace fr := mi_Fm_tr fr f
  refine mi_wp_p (pc' := 19) (l' := [(4, .int (Int32.ofInt (-1))), (2, .long (mi_sE σ 8 a)), (0, .ref 43), (1, .int (Int32.ofInt a))]) (st' := []) rfl rfl rfl ?_
  refine mi_wp_p (pc' := 21) (st' := [.int (Int32.ofInt (-1))]) rfl rfl rfl ?_
  refine mi_s_if1 (t := 63) rfl rfl rfl (by unfold mi_R; omega) (fun _ => ?_) (fun hc_ => absurd (show ((-1) : Int) < 0 by omega) hc_)
  refine mi_wp_p (pc' := 64) (st' := [.ref 43]) rfl rfl rfl ?_
  refine ty_s_gf (x := mi_sF σ 43 7) S rfl rfl rfl (List.mem_of_getElem? (i := 19) rfl) rfl ?_
  refine mi_wp_p (pc' := 68) (st' := [.int (Int32.ofInt (-1)), .int (Int32.ofInt (mi_sF σ 43 7))]) rfl rfl rfl ?_
  refine mi_s_if2 (t := 100) rfl rfl rfl (by unfold mi_R; omega) (by unfold mi_R; omega) (fun hc_ => absurd (show (mi_sF σ 43 7) = (-1) from hc_) (by omega)) (fun _ => ?_)
  refine mi_wp_p (pc' := 72) (st' := [.long (mi_sE σ 8 a)]) rfl rfl rfl ?_
  refine mi_wp_p (pc' := 73) (st' := [.ref 43, .long (mi_sE σ 8 a)]) rfl rfl rfl ?_
  refine ty_s_gj (x := mi_sB σ 43 8) S rfl rfl rfl (List.mem_of_getElem? (i := 0) rfl) rfl ?_
  refine mi_s_lne (t := 100) rfl rfl rfl rfl rfl ?_ ?_
  · intro (c7 : mi_sE σ 8 a ≠ mi_sB σ 43 8)
    refine mi_wp_p (pc' := 101) (st' := [.ref 43]) rfl rfl rfl ?_
    refine ty_s_gr S rfl rfl rfl (List.mem_of_getElem? (i := 50) rfl) ?_
    refine mi_wp_p (pc' := 105) (st' := [.long (mi_sE σ 8 a), .ref 17]) rfl rfl rfl ?_
    refine ty_s_ci rfl rfl rfl rfl rfl rfl (mi_cal_v2 (np := 1) (args := [.ref 17, .long (mi_sE σ 8 a)]) (rest := []) rfl rfl rfl rfl rfl (Nat.le_of_ble_eq_true rfl) rfl rfl (Nat.le_of_ble_eq_true rfl) (ty_rcS S (List.mem_of_getElem? (i := 10) rfl))) (Nat.le_of_ble_eq_true rfl) S (kn_definitionNumber (by omega) k2) ?_
    intro x hh σu S f P
    obtain ⟨P, e2⟩ := P
    rw [e2] at S
    obtain e3 : x = i := pl_at P k0 k1 k3 k4
    rw [e3]
    clear P e2 e3 x
    replace fr := mi_Fm_tr fr f
    refine mi_wp_p (pc' := 110) (l' := [(5, .int (Int32.ofInt i)), (4, .int (Int32.ofInt (-1))), (2, .long (mi_sE σ 8 a)), (0, .ref 43), (1, .int (Int32.ofInt a))]) (st' := []) rfl rfl rfl ?_
    refine mi_wp_p (pc' := 112) (st' := [.int (Int32.ofInt i)]) rfl rfl rfl ?_
    refine mi_wp_p (pc' := 113) (st' := [.int (Int32.ofInt (-1)), .int (Int32.ofInt i)]) rfl rfl rfl ?_
    refine mi_s_if2 (t := 147) rfl rfl rfl (by unfold mi_R; omega) (by unfold mi_R; omega) (fun hc_ => absurd (show i = (-1) from hc_) (by omega)) (fun _ => ?_)
    refine mi_wp_p (pc' := 117) (st' := [.ref 43]) rfl rfl rfl ?_
    refine ty_s_gr S rfl rfl rfl (List.mem_of_getElem? (i := 50) rfl) ?_
    refine mi_wp_p (pc' := 121) (st' := [.ref 43, .ref 17]) rfl rfl rfl ?_
    refine ty_s_gf (x := mi_sF σ 43 7) S rfl rfl rfl (List.mem_of_getElem? (i := 19) rfl) rfl ?_
    refine mi_wp_p (pc' := 126) (st' := [.int (Int32.ofInt i), .int (Int32.ofInt (mi_sF σ 43 7)), .ref 17]) rfl rfl rfl ?_
    refine ty_s_cv rfl rfl rfl rfl rfl rfl (mi_cal_v2 (np := 2) (args := [.ref 17, .int (Int32.ofInt (mi_sF σ 43 7)), .int (Int32.ofInt i)]) (rest := []) rfl rfl rfl rfl rfl (Nat.le_of_ble_eq_true rfl) rfl rfl (Nat.le_of_ble_eq_true rfl) (ty_rcS S (List.mem_of_getElem? (i := 10) rfl))) (Nat.le_of_ble_eq_true rfl) S (kn_addUse o0 o1 k0 (by omega)) ?_
    intro hh σ1 S f P
    subst P
    replace fr := mi_Fm_tr fr f
    refine mi_wp_p (pc' := 130) (st' := [.ref 43]) rfl rfl rfl ?_
    refine ty_s_gr S rfl rfl rfl (List.mem_of_getElem? (i := 49) rfl) ?_
    refine mi_wp_p (pc' := 134) (st' := [.ref 43, .ref 9]) rfl rfl rfl ?_
    refine ty_s_gr S rfl rfl rfl (List.mem_of_getElem? (i := 50) rfl) ?_
    refine mi_wp_p (pc' := 139) (st' := [.int (Int32.ofInt i), .ref 17, .ref 9]) rfl rfl rfl ?_
    refine ty_s_ci rfl rfl rfl rfl rfl rfl (mi_cal_v2 (np := 1) (args := [.ref 17, .int (Int32.ofInt i)]) (rest := [.ref 9]) rfl rfl rfl rfl rfl (Nat.le_of_ble_eq_true rfl) rfl rfl (Nat.le_of_ble_eq_true rfl) (ty_rcS S (List.mem_of_getElem? (i := 10) rfl))) (Nat.le_of_ble_eq_true rfl) S (kn_typeOfDefinition (σ := (mi_uA σ 25 (mi_sF σ 43 7 * 24 + i) (mi_sA σ 25 (mi_sF σ 43 7 * 24 + i) + 1))) k0 k1 k2) ?_
    intro x hh σu S f P
    obtain ⟨e1, e2⟩ := P
    rw [e2] at S
    rw [e1]
    clear e1 e2
    replace fr := mi_Fm_tr fr f
    refine mi_wp_p (pc' := 143) (st' := [.int (Int32.ofInt 0), .int (Int32.ofInt (mi_sA (mi_uA σ 25 (mi_sF σ 43 7 * 24 + i) (mi_sA σ 25 (mi_sF σ 43 7 * 24 + i) + 1)) 24 i)), .ref 9]) rfl rfl rfl ?_
    refine ty_s_ci rfl rfl rfl rfl rfl rfl (mi_cal_v2 (np := 2) (args := [.ref 9, .int (Int32.ofInt (mi_sA (mi_uA σ 25 (mi_sF σ 43 7 * 24 + i) (mi_sA σ 25 (mi_sF σ 43 7 * 24 + i) + 1)) 24 i)), .int (Int32.ofInt 0)]) (rest := []) rfl rfl rfl rfl rfl (Nat.le_of_ble_eq_true rfl) rfl rfl (Nat.le_of_ble_eq_true rfl) (ty_rcS S (List.mem_of_getElem? (i := 5) rfl))) (Nat.le_of_ble_eq_true rfl) S H ?_
    intro x hh σ1 S f P1
    replace fr := mi_Fm_tr fr f
    exact ty_s_ret S fr rfl rfl rfl (mi_ret_i rfl) ⟨_, rfl, P1⟩
  · intro (c7 : mi_sE σ 8 a = mi_sB σ 43 8)
    exact absurd c7 o2
theorem kn_addUse0 {X : mi_X} {d : Nat} {σ : mi_Sg} {b : Int}  : ty_Cv X d mi_M45 [(0, .ref 17), (1, .int (Int32.ofInt (-1))), (2, .int (Int32.ofInt b))] σ (fun σ' => σ' = σ) := by
  intro h S
  have fr := mi_Fm_rf h
  refine mi_wp_p (pc' := 1) (st' := [.int (Int32.ofInt (-1))]) rfl rfl rfl ?_
  refine mi_s_if1 (t := 35) rfl rfl rfl (by unfold mi_R; omega) (fun _ => ?_) (fun hc_ => absurd (show ((-1) : Int) < 0 by omega) hc_)
  exact ty_s_ret S fr rfl rfl rfl rfl ⟨rfl, rfl⟩
theorem ck_name_ask {X : mi_X} {σ : mi_Sg} {d : Nat} {a i : Int} {P : Int → mi_Sg → Prop} (t0 : 0 ≤ a) (t1 : a < mi_sF σ 3 7) (t2 : mi_sF σ 3 7 ≤ 301) (z0 : 0 ≤ mi_sF σ 44 3) (z1 : mi_sF σ 44 3 ≤ 300) (nn : ∀ j, 0 ≤ j → j < mi_sF σ 44 3 → mi_sE σ 45 j ≠ mi_sE σ 8 a) (k0 : 0 ≤ i) (k1 : i < mi_sF σ 17 14) (k2 : mi_sF σ 17 14 ≤ 24) (k3 : mi_sE σ 23 i = mi_sE σ 8 a) (k4 : ∀ j, 0 ≤ j → j < i → mi_sE σ 23 j ≠ mi_sE σ 8 a) (o0 : mi_sF σ 43 7 = -1) (H : ty_Ci X (d + 2) mi_M122 [(0, .ref 9), (1, .int (Int32.ofInt (mi_sA σ 24 i))), (2, .int (Int32.ofInt 0))] σ P) : ty_Ci X (d + 3) mi_M26 [(0, .ref 43), (1, .int (Int32.ofInt a))] σ (fun x σ' => P x σ') := by
  intro h S
  have fr := mi_Fm_rf h
  refine mi_wp_p (pc' := 1) (st' := [.ref 43]) rfl rfl rfl ?_
  refine ty_s_gr S rfl rfl rfl (List.mem_of_getElem? (i := 48) rfl) ?_
  refine mi_wp_p (pc' := 5) (st' := [.int (Int32.ofInt a), .ref 3]) rfl rfl rfl ?_
  refine ty_s_cj rfl rfl rfl rfl rfl rfl (mi_cal_v2 (np := 1) (args := [.ref 3, .int (Int32.ofInt a)]) (rest := []) rfl rfl rfl rfl rfl (Nat.le_of_ble_eq_true rfl) rfl rfl (Nat.le_of_ble_eq_true rfl) (ty_rcS S (List.mem_of_getElem? (i := 3) rfl))) (Nat.le_of_ble_eq_true rfl) S (to_keyOf t0 t1 t2) ?_
  intro x hh σu S f P
  obtain ⟨e1, e2⟩ := P
  rw [e2] at S
  rw [e1]
  clear e1 e2
  replace fr := mi_Fm_tr fr f
  refine mi_wp_p (pc' := 9) (l' := [(2, .long (mi_sE σ 8 a)), (0, .ref 43), (1, .int (Int32.ofInt a))]) (st' := []) rfl rfl rfl ?_
  refine mi_wp_p (pc' := 10) (st' := [.ref 43]) rfl rfl rfl ?_
  refine ty_s_gr S rfl rfl rfl (List.mem_of_getElem? (i := 53) rfl) ?_
  refine mi_wp_p (pc' := 14) (st' := [.long (mi_sE σ 8 a), .ref 44]) rfl rfl rfl ?_
  refine ty_s_ci rfl rfl rfl rfl rfl rfl (mi_cal_v2 (np := 1) (args := [.ref 44, .long (mi_sE σ 8 a)]) (rest := []) rfl rfl rfl rfl rfl (Nat.le_of_ble_eq_true rfl) rfl rfl (Nat.le_of_ble_eq_true rfl) (ty_rcS S (List.mem_of_getElem? (i := 23) rfl))) (Nat.le_of_ble_eq_true rfl) S (sc_nearest z0 z1) ?_
  intro x hh σu S f P
  obtain ⟨P, e2⟩ := P
  rw [e2] at S
  obtain e3 : x = -1 := nr_no P nn
  rw [e3]
  clear P e2 e3 x
  replace fr := mi_Fm_tr fr f
  refine mi_wp_p (pc' := 19) (l' := [(4, .int (Int32.ofInt (-1))), (2, .long (mi_sE σ 8 a)), (0, .ref 43), (1, .int (Int32.ofInt a))]) (st' := []) rfl rfl rfl ?_
  refine mi_wp_p (pc' := 21) (st' := [.int (Int32.ofInt (-1))]) rfl rfl rfl ?_
  refine mi_s_if1 (t := 63) rfl rfl rfl (by unfold mi_R; omega) (fun _ => ?_) (fun hc_ => absurd (show ((-1) : Int) < 0 by omega) hc_)
  refine mi_wp_p (pc' := 64) (st' := [.ref 43]) rfl rfl rfl ?_
  refine ty_s_gf (x := mi_sF σ 43 7) S rfl rfl rfl (List.mem_of_getElem? (i := 19) rfl) rfl ?_
  refine mi_wp_p (pc' := 68) (st' := [.int (Int32.ofInt (-1)), .int (Int32.ofInt (mi_sF σ 43 7))]) rfl rfl rfl ?_
  refine mi_s_if2 (t := 100) rfl rfl rfl (by unfold mi_R; omega) (by unfold mi_R; omega) (fun _ => ?_) (fun hc_ => absurd (show (mi_sF σ 43 7) = (-1) by omega) hc_)
  refine mi_wp_p (pc' := 101) (st' := [.ref 43]) rfl rfl rfl ?_
  refine ty_s_gr S rfl rfl rfl (List.mem_of_getElem? (i := 50) rfl) ?_
  refine mi_wp_p (pc' := 105) (st' := [.long (mi_sE σ 8 a), .ref 17]) rfl rfl rfl ?_
  refine ty_s_ci rfl rfl rfl rfl rfl rfl (mi_cal_v2 (np := 1) (args := [.ref 17, .long (mi_sE σ 8 a)]) (rest := []) rfl rfl rfl rfl rfl (Nat.le_of_ble_eq_true rfl) rfl rfl (Nat.le_of_ble_eq_true rfl) (ty_rcS S (List.mem_of_getElem? (i := 10) rfl))) (Nat.le_of_ble_eq_true rfl) S (kn_definitionNumber (by omega) k2) ?_
  intro x hh σu S f P
  obtain ⟨P, e2⟩ := P
  rw [e2] at S
  obtain e3 : x = i := pl_at P k0 k1 k3 k4
  rw [e3]
  clear P e2 e3 x
  replace fr := mi_Fm_tr fr f
  refine mi_wp_p (pc' := 110) (l' := [(5, .int (Int32.ofInt i)), (4, .int (Int32.ofInt (-1))), (2, .long (mi_sE σ 8 a)), (0, .ref 43), (1, .int (Int32.ofInt a))]) (st' := []) rfl rfl rfl ?_
  refine mi_wp_p (pc' := 112) (st' := [.int (Int32.ofInt i)]) rfl rfl rfl ?_
  refine mi_wp_p (pc' := 113) (st' := [.int (Int32.ofInt (-1)), .int (Int32.ofInt i)]) rfl rfl rfl ?_
  refine mi_s_if2 (t := 147) rfl rfl rfl (by unfold mi_R; omega) (by unfold mi_R; omega) (fun hc_ => absurd (show i = (-1) from hc_) (by omega)) (fun _ => ?_)
  refine mi_wp_p (pc' := 117) (st' := [.ref 43]) rfl rfl rfl ?_
  refine ty_s_gr S rfl rfl rfl (List.mem_of_getElem? (i := 50) rfl) ?_
  refine mi_wp_p (pc' := 121) (st' := [.ref 43, .ref 17]) rfl rfl rfl ?_
  refine ty_s_gf (x := mi_sF σ 43 7) S rfl rfl rfl (List.mem_of_getElem? (i := 19) rfl) rfl ?_
  refine mi_wp_p (pc' := 126) (st' := [.int (Int32.ofInt i), .int (Int32.ofInt (mi_sF σ 43 7)), .ref 17]) rfl rfl rfl ?_
  refine ty_s_cv rfl rfl rfl rfl rfl rfl (mi_cal_v2 (np := 2) (args := [.ref 17, .int (Int32.ofInt (mi_sF σ 43 7)), .int (Int32.ofInt i)]) (rest := []) rfl rfl rfl rfl rfl (Nat.le_of_ble_eq_true rfl) rfl rfl (Nat.le_of_ble_eq_true rfl) (ty_rcS S (List.mem_of_getElem? (i := 10) rfl))) (Nat.le_of_ble_eq_true rfl) S (by rw [o0]; exact kn_addUse0) ?_
  intro hh σ1 S f P
  rw [P] at S
  clear P
  replace fr := mi_Fm_tr fr f
  refine mi_wp_p (pc' := 130) (st' := [.ref 43]) rfl rfl rfl ?_
  refine ty_s_gr S rfl rfl rfl (List.mem_of_getElem? (i := 49) rfl) ?_
  refine mi_wp_p (pc' := 134) (st' := [.ref 43, .ref 9]) rfl rfl rfl ?_
  refine ty_s_gr S rfl rfl rfl (List.mem_of_getElem? (i := 50) rfl) ?_
  refine mi_wp_p (pc' := 139) (st' := [.int (Int32.ofInt i), .ref 17, .ref 9]) rfl rfl rfl ?_
  refine ty_s_ci rfl rfl rfl rfl rfl rfl (mi_cal_v2 (np := 1) (args := [.ref 17, .int (Int32.ofInt i)]) (rest := [.ref 9]) rfl rfl rfl rfl rfl (Nat.le_of_ble_eq_true rfl) rfl rfl (Nat.le_of_ble_eq_true rfl) (ty_rcS S (List.mem_of_getElem? (i := 10) rfl))) (Nat.le_of_ble_eq_true rfl) S (kn_typeOfDefinition k0 k1 k2) ?_
  intro x hh σu S f P
  obtain ⟨e1, e2⟩ := P
  rw [e2] at S
  rw [e1]
  clear e1 e2
  replace fr := mi_Fm_tr fr f
  refine mi_wp_p (pc' := 143) (st' := [.int (Int32.ofInt 0), .int (Int32.ofInt (mi_sA σ 24 i)), .ref 9]) rfl rfl rfl ?_
  refine ty_s_ci rfl rfl rfl rfl rfl rfl (mi_cal_v2 (np := 2) (args := [.ref 9, .int (Int32.ofInt (mi_sA σ 24 i)), .int (Int32.ofInt 0)]) (rest := []) rfl rfl rfl rfl rfl (Nat.le_of_ble_eq_true rfl) rfl rfl (Nat.le_of_ble_eq_true rfl) (ty_rcS S (List.mem_of_getElem? (i := 5) rfl))) (Nat.le_of_ble_eq_true rfl) S H ?_
  intro x hh σ1 S f P1
  replace fr := mi_Fm_tr fr f
  exact ty_s_ret S fr rfl rfl rfl (mi_ret_i rfl) ⟨_, rfl, P1⟩
theorem ck_fun {X : mi_X} {σ : mi_Sg} {d : Nat} {st : Int} (hs : mi_sF σ 43 6 = 26) (h0 : 0 ≤ st) (h1 : st < mi_sF σ 26 7) (h2 : mi_sF σ 26 7 ≤ 1024) (z0 : 0 < mi_sF σ 44 3) (z1 : mi_sF σ 44 3 ≤ 300) (hu : mi_sF σ 9 8 < 512) : ty_Ci X (d + 2) mi_M25 [(0, .ref 43), (1, .int (Int32.ofInt st)), (2, .int (Int32.ofInt 1))] σ (fun x σ' => x = mi_sF σ 9 8 ∧ σ' = mi_uF (ty_mk σ 6 (mi_sA σ 46 (mi_sF σ 44 3 - 1 - 0)) (mi_sA σ 33 st) 0) 44 3 (mi_sF σ 44 3 - 1)) := by
  intro h S
  have fr := mi_Fm_rf h
  refine mi_wp_p (pc' := 1) (st' := [.ref 43]) rfl rfl rfl ?_
  refine ty_s_gv (q := 26) S rfl rfl rfl (List.mem_of_getElem? (i := 1) rfl) hs ?_
  refine mi_wp_p (pc' := 5) (st' := [.int (Int32.ofInt st), .ref 26]) rfl rfl rfl ?_
  refine ty_s_ci rfl rfl rfl rfl rfl rfl (mi_cal_v2 (np := 1) (args := [.ref 26, .int (Int32.ofInt st)]) (rest := []) rfl rfl rfl rfl rfl (Nat.le_of_ble_eq_true rfl) rfl rfl (Nat.le_of_ble_eq_true rfl) (ty_rcS S (List.mem_of_getElem? (i := 16) rfl))) (Nat.le_of_ble_eq_true rfl) S (st26_typeOf h0 h1 h2) ?_
  intro x hh σu S f P
  obtain ⟨e1, e2⟩ := P
  rw [e2] at S
  rw [e1]
  clear e1 e2
  replace fr := mi_Fm_tr fr f
  refine mi_wp_p (pc' := 9) (l' := [(3, .int (Int32.ofInt (mi_sA σ 33 st))), (0, .ref 43), (1, .int (Int32.ofInt st)), (2, .int (Int32.ofInt 1))]) (st' := []) rfl rfl rfl ?_
  refine mi_wp_p (pc' := 10) (st' := [.ref 43]) rfl rfl rfl ?_
  refine ty_s_gr S rfl rfl rfl (List.mem_of_getElem? (i := 53) rfl) ?_
  refine ty_s_ci rfl rfl rfl rfl rfl rfl (mi_cal_v2 (np := 0) (args := [.ref 44]) (rest := []) rfl rfl rfl rfl rfl (Nat.le_of_ble_eq_true rfl) rfl rfl (Nat.le_of_ble_eq_true rfl) (ty_rcS S (List.mem_of_getElem? (i := 23) rfl))) (Nat.le_of_ble_eq_true rfl) S sc_last ?_
  intro x hh σu S f P
  obtain ⟨e1, e2⟩ := P
  rw [e2] at S
  rw [e1]
  clear e1 e2
  replace fr := mi_Fm_tr fr f
  refine mi_wp_p (pc' := 18) (l' := [(4, .int (Int32.ofInt (mi_sF σ 44 3 - 1))), (3, .int (Int32.ofInt (mi_sA σ 33 st))), (0, .ref 43), (1, .int (Int32.ofInt st)), (2, .int (Int32.ofInt 1))]) (st' := []) rfl rfl rfl ?_
  refine mi_wp_p (pc' := 19) (st' := [.int (Int32.ofInt 0)]) rfl rfl rfl ?_
  refine mi_wp_p (pc' := 21) (l' := [(5, .int (Int32.ofInt 0)), (4, .int (Int32.ofInt (mi_sF σ 44 3 - 1))), (3, .int (Int32.ofInt (mi_sA σ 33 st))), (0, .ref 43), (1, .int (Int32.ofInt st)), (2, .int (Int32.ofInt 1))]) (st' := []) rfl rfl rfl ?_
  refine mi_wp_p (pc' := 23) (st' := [.int (Int32.ofInt 0)]) rfl rfl rfl ?_
  refine mi_wp_p (pc' := 24) (st' := [.int (Int32.ofInt 1), .int (Int32.ofInt 0)]) rfl rfl rfl ?_
  refine mi_s_if2 (t := 54) rfl rfl rfl (by unfold mi_R; omega) (by unfold mi_R; omega) (fun hc_ => absurd (show 1 ≤ (0 : Int) from hc_) (by omega)) (fun _ => ?_)
  refine mi_wp_p (pc' := 28) (st' := [.ref 43]) rfl rfl rfl ?_
  refine ty_s_gr S rfl rfl rfl (List.mem_of_getElem? (i := 49) rfl) ?_
  refine mi_wp_p (pc' := 32) (st' := [.ref 43, .ref 9]) rfl rfl rfl ?_
  refine ty_s_gr S rfl rfl rfl (List.mem_of_getElem? (i := 53) rfl) ?_
  refine mi_wp_p (pc' := 37) (st' := [.int (Int32.ofInt (mi_sF σ 44 3 - 1)), .ref 44, .ref 9]) rfl rfl rfl ?_
  refine mi_wp_p (pc' := 39) (st' := [.int (Int32.ofInt 0), .int (Int32.ofInt (mi_sF σ 44 3 - 1)), .ref 44, .ref 9]) rfl rfl rfl ?_
  refine mi_s_sub rfl rfl ?_
  refine ty_s_ci rfl rfl rfl rfl rfl rfl (mi_cal_v2 (np := 1) (args := [.ref 44, .int (Int32.ofInt ((mi_sF σ 44 3 - 1) - 0))]) (rest := [.ref 9]) rfl rfl rfl rfl rfl (Nat.le_of_ble_eq_true rfl) rfl rfl (Nat.le_of_ble_eq_true rfl) (ty_rcS S (List.mem_of_getElem? (i := 23) rfl))) (Nat.le_of_ble_eq_true rfl) S (sc_typeOf (a := mi_sF σ 44 3 - 1 - 0) (by omega) (by omega) z1) ?_
  intro x hh σu S f P
  obtain ⟨e1, e2⟩ := P
  rw [e2] at S
  rw [e1]
  clear e1 e2
  replace fr := mi_Fm_tr fr f
  refine mi_wp_p (pc' := 44) (st' := [.int (Int32.ofInt (mi_sA σ 33 st)), .int (Int32.ofInt (mi_sA σ 46 (mi_sF σ 44 3 - 1 - 0))), .ref 9]) rfl rfl rfl ?_
  refine ty_s_ci rfl rfl rfl rfl rfl rfl (mi_cal_v2 (np := 2) (args := [.ref 9, .int (Int32.ofInt (mi_sA σ 46 (mi_sF σ 44 3 - 1 - 0))), .int (Int32.ofInt (mi_sA σ 33 st))]) (rest := []) rfl rfl rfl rfl rfl (Nat.le_of_ble_eq_true rfl) rfl rfl (Nat.le_of_ble_eq_true rfl) (ty_rcS S (List.mem_of_getElem? (i := 5) rfl))) (Nat.le_of_ble_eq_true rfl) S (ty_function hu) ?_
  intro x hh σ1 S f P
  obtain ⟨e1, e2⟩ := P
  subst e2
  rw [e1]
  clear e1
  replace fr := mi_Fm_tr fr f
  refine mi_wp_p (pc' := 48) (l' := [(3, .int (Int32.ofInt (mi_sF σ 9 8))), (5, .int (Int32.ofInt 0)), (4, .int (Int32.ofInt (mi_sF σ 44 3 - 1))), (0, .ref 43), (1, .int (Int32.ofInt st)), (2, .int (Int32.ofInt 1))]) (st' := []) rfl rfl rfl ?_
  refine mi_s_inc (l' := [(5, .int (Int32.ofInt (0 + 1))), (3, .int (Int32.ofInt (mi_sF σ 9 8))), (4, .int (Int32.ofInt (mi_sF σ 44 3 - 1))), (0, .ref 43), (1, .int (Int32.ofInt st)), (2, .int (Int32.ofInt 1))]) rfl rfl rfl (by decide) rfl ?_
  refine mi_wp_p (pc' := 21) rfl rfl rfl ?_
  refine mi_wp_p (pc' := 23) (st' := [.int (Int32.ofInt (0 + 1))]) rfl rfl rfl ?_
  refine mi_wp_p (pc' := 24) (st' := [.int (Int32.ofInt 1), .int (Int32.ofInt (0 + 1))]) rfl rfl rfl ?_
  refine mi_s_if2 (t := 54) rfl rfl rfl (by unfold mi_R; omega) (by unfold mi_R; omega) (fun _ => ?_) (fun hc_ => absurd (show 1 ≤ ((0 + 1) : Int) by omega) hc_)
  refine mi_wp_p (pc' := 55) (st' := [.ref 43]) rfl rfl rfl ?_
  refine ty_s_gr S rfl rfl rfl (List.mem_of_getElem? (i := 53) rfl) ?_
  refine mi_wp_p (pc' := 59) (st' := [.int (Int32.ofInt 1), .ref 44]) rfl rfl rfl ?_
  refine ty_s_cv rfl rfl rfl rfl rfl rfl (mi_cal_v2 (np := 1) (args := [.ref 44, .int (Int32.ofInt 1)]) (rest := []) rfl rfl rfl rfl rfl (Nat.le_of_ble_eq_true rfl) rfl rfl (Nat.le_of_ble_eq_true rfl) (ty_rcS S (List.mem_of_getElem? (i := 23) rfl))) (Nat.le_of_ble_eq_true rfl) S (sc_unbind (σ := (ty_mk σ 6 (mi_sA σ 46 (mi_sF σ 44 3 - 1 - 0)) (mi_sA σ 33 st) 0)) (a := 1) (by omega) (by show 1 ≤ mi_sF σ 44 3; omega) z1) ?_
  intro hh σ2 S f P
  subst P
  replace fr := mi_Fm_tr fr f
  refine mi_wp_p (pc' := 63) (st' := [.int (Int32.ofInt (mi_sF σ 9 8))]) rfl rfl rfl ?_
  exact ty_s_ret S fr rfl rfl rfl (mi_ret_i rfl) ⟨_, rfl, ⟨rfl, rfl⟩⟩
theorem te_name {X : mi_X} {σ : mi_Sg} {d : Nat} {a b : Int} {P : Int → mi_Sg → Prop} (H : ty_Ci X d mi_M26 [(0, .ref 43), (1, .int (Int32.ofInt a))] σ P) : ty_Ci X (d + 1) mi_M24 [(0, .ref 43), (1, .int (Int32.ofInt 21)), (2, .int (Int32.ofInt a)), (3, .int (Int32.ofInt b))] σ (fun x σ' => P x σ') := by
  intro h S
  have fr := mi_Fm_rf h
  refine mi_wp_p (pc' := 1) (st' := [.int (Int32.ofInt 21)]) rfl rfl rfl ?_
  refine mi_wp_p (pc' := 72) (l' := [(0, .ref 43), (1, .int (Int32.ofInt 21)), (2, .int (Int32.ofInt a)), (3, .int (Int32.ofInt b))]) (st' := []) rfl rfl rfl ?_
  refine mi_wp_p (pc' := 73) (st' := [.ref 43]) rfl rfl rfl ?_
  refine mi_wp_p (pc' := 74) (st' := [.int (Int32.ofInt a), .ref 43]) rfl rfl rfl ?_
  refine ty_s_ci rfl rfl rfl rfl rfl rfl (mi_cal_v2 (np := 1) (args := [.ref 43, .int (Int32.ofInt a)]) (rest := []) rfl rfl rfl rfl rfl (Nat.le_of_ble_eq_true rfl) rfl rfl (Nat.le_of_ble_eq_true rfl) (ty_rcS S (List.mem_of_getElem? (i := 19) rfl))) (Nat.le_of_ble_eq_true rfl) S H ?_
  intro x hh σ1 S f P1
  replace fr := mi_Fm_tr fr f
  exact ty_s_ret S fr rfl rfl rfl (mi_ret_i rfl) ⟨_, rfl, P1⟩
theorem te_fun {X : mi_X} {σ : mi_Sg} {d : Nat} {a b : Int} {P : Int → mi_Sg → Prop} (H : ty_Ci X d mi_M25 [(0, .ref 43), (1, .int (Int32.ofInt a)), (2, .int (Int32.ofInt b))] σ P) : ty_Ci X (d + 1) mi_M24 [(0, .ref 43), (1, .int (Int32.ofInt 30)), (2, .int (Int32.ofInt a)), (3, .int (Int32.ofInt b))] σ (fun x σ' => P x σ') := by
  intro h S
  have fr := mi_Fm_rf h
  refine mi_wp_p (pc' := 1) (st' := [.int (Int32.ofInt 30)]) rfl rfl rfl ?_
  refine mi_wp_p (pc' := 168) (l' := [(0, .ref 43), (1, .int (Int32.ofInt 30)), (2, .int (Int32.ofInt a)), (3, .int (Int32.ofInt b))]) (st' := []) rfl rfl rfl ?_
  refine mi_wp_p (pc' := 169) (st' := [.ref 43]) rfl rfl rfl ?_
  refine mi_wp_p (pc' := 170) (st' := [.int (Int32.ofInt a), .ref 43]) rfl rfl rfl ?_
  refine mi_wp_p (pc' := 171) (st' := [.int (Int32.ofInt b), .int (Int32.ofInt a), .ref 43]) rfl rfl rfl ?_
  refine ty_s_ci rfl rfl rfl rfl rfl rfl (mi_cal_v2 (np := 2) (args := [.ref 43, .int (Int32.ofInt a), .int (Int32.ofInt b)]) (rest := []) rfl rfl rfl rfl rfl (Nat.le_of_ble_eq_true rfl) rfl rfl (Nat.le_of_ble_eq_true rfl) (ty_rcS S (List.mem_of_getElem? (i := 19) rfl))) (Nat.le_of_ble_eq_true rfl) S H ?_
  intro x hh σ1 S f P1
  replace fr := mi_Fm_tr fr f
  exact ty_s_ret S fr rfl rfl rfl (mi_ret_i rfl) ⟨_, rfl, P1⟩
theorem te_pair {X : mi_X} {σ : mi_Sg} {d : Nat} {a b : Int} (hs : mi_sF σ 43 6 = 26) (a0 : 0 ≤ a) (a1 : a < mi_sF σ 26 7) (b0 : 0 ≤ b) (b1 : b < mi_sF σ 26 7) (h2 : mi_sF σ 26 7 ≤ 1024) (hu : mi_sF σ 9 8 < 512) : ty_Ci X (d + 2) mi_M24 [(0, .ref 43), (1, .int (Int32.ofInt 24)), (2, .int (Int32.ofInt a)), (3, .int (Int32.ofInt b))] σ (fun x σ' => x = mi_sF σ 9 8 ∧ σ' = ty_mk σ 5 (mi_sA σ 33 a) (mi_sA σ 33 b) 0) := by
  intro h S
  have fr := mi_Fm_rf h
  refine mi_wp_p (pc' := 1) (st' := [.int (Int32.ofInt 24)]) rfl rfl rfl ?_
  refine mi_wp_p (pc' := 84) (l' := [(0, .ref 43), (1, .int (Int32.ofInt 24)), (2, .int (Int32.ofInt a)), (3, .int (Int32.ofInt b))]) (st' := []) rfl rfl rfl ?_
  refine mi_wp_p (pc' := 85) (st' := [.ref 43]) rfl rfl rfl ?_
  refine ty_s_gr S rfl rfl rfl (List.mem_of_getElem? (i := 49) rfl) ?_
  refine mi_wp_p (pc' := 89) (st' := [.ref 43, .ref 9]) rfl rfl rfl ?_
  refine ty_s_gv (q := 26) S rfl rfl rfl (List.mem_of_getElem? (i := 1) rfl) hs ?_
  refine mi_wp_p (pc' := 93) (st' := [.int (Int32.ofInt a), .ref 26, .ref 9]) rfl rfl rfl ?_
  refine ty_s_ci rfl rfl rfl rfl rfl rfl (mi_cal_v2 (np := 1) (args := [.ref 26, .int (Int32.ofInt a)]) (rest := [.ref 9]) rfl rfl rfl rfl rfl (Nat.le_of_ble_eq_true rfl) rfl rfl (Nat.le_of_ble_eq_true rfl) (ty_rcS S (List.mem_of_getElem? (i := 16) rfl))) (Nat.le_of_ble_eq_true rfl) S (st26_typeOf a0 a1 h2) ?_
  intro x hh σu S f P
  obtain ⟨e1, e2⟩ := P
  rw [e2] at S
  rw [e1]
  clear e1 e2
  replace fr := mi_Fm_tr fr f
  refine mi_wp_p (pc' := 97) (st' := [.ref 43, .int (Int32.ofInt (mi_sA σ 33 a)), .ref 9]) rfl rfl rfl ?_
  refine ty_s_gv (q := 26) S rfl rfl rfl (List.mem_of_getElem? (i := 1) rfl) hs ?_
  refine mi_wp_p (pc' := 101) (st' := [.int (Int32.ofInt b), .ref 26, .int (Int32.ofInt (mi_sA σ 33 a)), .ref 9]) rfl rfl rfl ?_
  refine ty_s_ci rfl rfl rfl rfl rfl rfl (mi_cal_v2 (np := 1) (args := [.ref 26, .int (Int32.ofInt b)]) (rest := [.int (Int32.ofInt (mi_sA σ 33 a)), .ref 9]) rfl rfl rfl rfl rfl (Nat.le_of_ble_eq_true rfl) rfl rfl (Nat.le_of_ble_eq_true rfl) (ty_rcS S (List.mem_of_getElem? (i := 16) rfl))) (Nat.le_of_ble_eq_true rfl) S (st26_typeOf b0 b1 h2) ?_
  intro x hh σu S f P
  obtain ⟨e1, e2⟩ := P
  rw [e2] at S
  rw [e1]
  clear e1 e2
  replace fr := mi_Fm_tr fr f
  refine ty_s_ci rfl rfl rfl rfl rfl rfl (mi_cal_v2 (np := 2) (args := [.ref 9, .int (Int32.ofInt (mi_sA σ 33 a)), .int (Int32.ofInt (mi_sA σ 33 b))]) (rest := []) rfl rfl rfl rfl rfl (Nat.le_of_ble_eq_true rfl) rfl rfl (Nat.le_of_ble_eq_true rfl) (ty_rcS S (List.mem_of_getElem? (i := 5) rfl))) (Nat.le_of_ble_eq_true rfl) S (ty_pair hu) ?_
  intro x hh σ1 S f P
  obtain ⟨e1, e2⟩ := P
  subst e2
  rw [e1]
  clear e1
  replace fr := mi_Fm_tr fr f
  exact ty_s_ret S fr rfl rfl rfl (mi_ret_i rfl) ⟨_, rfl, ⟨rfl, rfl⟩⟩
theorem te_let {X : mi_X} {σ : mi_Sg} {d : Nat} {a b : Int} (hs : mi_sF σ 43 6 = 26) (a0 : 0 ≤ a) (a1 : a < mi_sF σ 26 7) (h2 : mi_sF σ 26 7 ≤ 1024) (z0 : 1 ≤ mi_sF σ 44 3) (z1 : mi_sF σ 44 3 ≤ 300) : ty_Ci X (d + 2) mi_M24 [(0, .ref 43), (1, .int (Int32.ofInt 31)), (2, .int (Int32.ofInt a)), (3, .int (Int32.ofInt b))] σ (fun x σ' => x = mi_sA σ 33 a ∧ σ' = (mi_uF σ 44 3 (mi_sF σ 44 3 - 1))) := by
  intro h S
  have fr := mi_Fm_rf h
  refine mi_wp_p (pc' := 1) (st' := [.int (Int32.ofInt 31)]) rfl rfl rfl ?_
  refine mi_wp_p (pc' := 175) (l' := [(0, .ref 43), (1, .int (Int32.ofInt 31)), (2, .int (Int32.ofInt a)), (3, .int (Int32.ofInt b))]) (st' := []) rfl rfl rfl ?_
  refine mi_wp_p (pc' := 176) (st' := [.ref 43]) rfl rfl rfl ?_
  refine ty_s_gr S rfl rfl rfl (List.mem_of_getElem? (i := 53) rfl) ?_
  refine mi_wp_p (pc' := 180) (st' := [.int (Int32.ofInt 1), .ref 44]) rfl rfl rfl ?_
  refine ty_s_cv rfl rfl rfl rfl rfl rfl (mi_cal_v2 (np := 1) (args := [.ref 44, .int (Int32.ofInt 1)]) (rest := []) rfl rfl rfl rfl rfl (Nat.le_of_ble_eq_true rfl) rfl rfl (Nat.le_of_ble_eq_true rfl) (ty_rcS S (List.mem_of_getElem? (i := 23) rfl))) (Nat.le_of_ble_eq_true rfl) S (sc_unbind (by omega) z0 z1) ?_
  intro hh σ1 S f P
  subst P
  replace fr := mi_Fm_tr fr f
  refine mi_wp_p (pc' := 184) (st' := [.ref 43]) rfl rfl rfl ?_
  refine ty_s_gv (q := 26) S rfl rfl rfl (List.mem_of_getElem? (i := 1) rfl) hs ?_
  refine mi_wp_p (pc' := 188) (st' := [.int (Int32.ofInt a), .ref 26]) rfl rfl rfl ?_
  refine ty_s_ci rfl rfl rfl rfl rfl rfl (mi_cal_v2 (np := 1) (args := [.ref 26, .int (Int32.ofInt a)]) (rest := []) rfl rfl rfl rfl rfl (Nat.le_of_ble_eq_true rfl) rfl rfl (Nat.le_of_ble_eq_true rfl) (ty_rcS S (List.mem_of_getElem? (i := 16) rfl))) (Nat.le_of_ble_eq_true rfl) S (st26_typeOf (σ := (mi_uF σ 44 3 (mi_sF σ 44 3 - 1))) a0 a1 h2) ?_
  intro x hh σu S f P
  obtain ⟨e1, e2⟩ := P
  rw [e2] at S
  rw [e1]
  clear e1 e2
  replace fr := mi_Fm_tr fr f
  exact ty_s_ret S fr rfl rfl rfl (mi_ret_i rfl) ⟨_, rfl, ⟨rfl, rfl⟩⟩
theorem ts_begin {X : mi_X} {σ : mi_Sg} {d : Nat} {n a : Int} {P : mi_Sg → Prop} (hs : mi_sF σ 43 6 = 26) (n0 : 0 ≤ n) (n1 : n < mi_sF σ 26 7) (n2 : mi_sF σ 26 7 ≤ 1024) (e2 : mi_sA σ 28 n = a) (H : ty_Cv X (d + 1) mi_M17 [(0, .ref 43), (1, .int (Int32.ofInt a))] σ P) : ty_Cv X (d + 2) mi_M23 [(0, .ref 43), (1, .int (Int32.ofInt 10)), (2, .int (Int32.ofInt n))] σ (fun σ' => P σ') := by
  intro h S
  have fr := mi_Fm_rf h
  refine mi_wp_p (pc' := 1) (st' := [.ref 43]) rfl rfl rfl ?_
  refine ty_s_gv (q := 26) S rfl rfl rfl (List.mem_of_getElem? (i := 1) rfl) hs ?_
  refine mi_wp_p (pc' := 5) (st' := [.int (Int32.ofInt n), .ref 26]) rfl rfl rfl ?_
  refine ty_s_ci rfl rfl rfl rfl rfl rfl (mi_cal_v2 (np := 1) (args := [.ref 26, .int (Int32.ofInt n)]) (rest := []) rfl rfl rfl rfl rfl (Nat.le_of_ble_eq_true rfl) rfl rfl (Nat.le_of_ble_eq_true rfl) (ty_rcS S (List.mem_of_getElem? (i := 16) rfl))) (Nat.le_of_ble_eq_true rfl) S (st26_aOf n0 n1 n2) ?_
  intro x hh σu S f P
  obtain ⟨q1, q2⟩ := P
  rw [q2] at S
  rw [q1, e2]
  clear q1 q2
  replace fr := mi_Fm_tr fr f
  refine mi_wp_p (pc' := 9) (l' := [(3, .int (Int32.ofInt a)), (0, .ref 43), (1, .int (Int32.ofInt 10)), (2, .int (Int32.ofInt n))]) (st' := []) rfl rfl rfl ?_
  refine mi_wp_p (pc' := 10) (st' := [.int (Int32.ofInt 10)]) rfl rfl rfl ?_
  refine mi_wp_p (pc' := 60) (l' := [(3, .int (Int32.ofInt a)), (0, .ref 43), (1, .int (Int32.ofInt 10)), (2, .int (Int32.ofInt n))]) (st' := []) rfl rfl rfl ?_
  refine mi_wp_p (pc' := 61) (st' := [.ref 43]) rfl rfl rfl ?_
  refine mi_wp_p (pc' := 62) (st' := [.int (Int32.ofInt a), .ref 43]) rfl rfl rfl ?_
  refine ty_s_cv rfl rfl rfl rfl rfl rfl (mi_cal_v2 (np := 1) (args := [.ref 43, .int (Int32.ofInt a)]) (rest := []) rfl rfl rfl rfl rfl (Nat.le_of_ble_eq_true rfl) rfl rfl (Nat.le_of_ble_eq_true rfl) (ty_rcS S (List.mem_of_getElem? (i := 19) rfl))) (Nat.le_of_ble_eq_true rfl) S H ?_
  intro hh σ1 S f P1
  replace fr := mi_Fm_tr fr f
  refine mi_wp_p (pc' := 213) rfl rfl rfl ?_
  exact ty_s_ret S fr rfl rfl rfl rfl ⟨rfl, P1⟩
theorem ts_end {X : mi_X} {σ : mi_Sg} {d : Nat} {n a b : Int} {P : mi_Sg → Prop} (hs : mi_sF σ 43 6 = 26) (n0 : 0 ≤ n) (n1 : n < mi_sF σ 26 7) (n2 : mi_sF σ 26 7 ≤ 1024) (e2 : mi_sA σ 28 n = a) (e3 : mi_sA σ 29 n = b) (H : ty_Cv X (d + 1) mi_M19 [(0, .ref 43), (1, .int (Int32.ofInt a)), (2, .int (Int32.ofInt (b + 1)))] σ P) : ty_Cv X (d + 2) mi_M23 [(0, .ref 43), (1, .int (Int32.ofInt 12)), (2, .int (Int32.ofInt n))] σ (fun σ' => P σ') := by
  intro h S
  have fr := mi_Fm_rf h
  refine mi_wp_p (pc' := 1) (st' := [.ref 43]) rfl rfl rfl ?_
  refine ty_s_gv (q := 26) S rfl rfl rfl (List.mem_of_getElem? (i := 1) rfl) hs ?_
  refine mi_wp_p (pc' := 5) (st' := [.int (Int32.ofInt n), .ref 26]) rfl rfl rfl ?_
  refine ty_s_ci rfl rfl rfl rfl rfl rfl (mi_cal_v2 (np := 1) (args := [.ref 26, .int (Int32.ofInt n)]) (rest := []) rfl rfl rfl rfl rfl (Nat.le_of_ble_eq_true rfl) rfl rfl (Nat.le_of_ble_eq_true rfl) (ty_rcS S (List.mem_of_getElem? (i := 16) rfl))) (Nat.le_of_ble_eq_true rfl) S (st26_aOf n0 n1 n2) ?_
  intro x hh σu S f P
  obtain ⟨q1, q2⟩ := P
  rw [q2] at S
  rw [q1, e2]
  clear q1 q2
  replace fr := mi_Fm_tr fr f
  refine mi_wp_p (pc' := 9) (l' := [(3, .int (Int32.ofInt a)), (0, .ref 43), (1, .int (Int32.ofInt 12)), (2, .int (Int32.ofInt n))]) (st' := []) rfl rfl rfl ?_
  refine mi_wp_p (pc' := 10) (st' := [.int (Int32.ofInt 12)]) rfl rfl rfl ?_
  refine mi_wp_p (pc' := 87) (l' := [(3, .int (Int32.ofInt a)), (0, .ref 43), (1, .int (Int32.ofInt 12)), (2, .int (Int32.ofInt n))]) (st' := []) rfl rfl rfl ?_
  refine mi_wp_p (pc' := 88) (st' := [.ref 43]) rfl rfl rfl ?_
  refine mi_wp_p (pc' := 89) (st' := [.int (Int32.ofInt a), .ref 43]) rfl rfl rfl ?_
  refine mi_wp_p (pc' := 90) (st' := [.ref 43, .int (Int32.ofInt a), .ref 43]) rfl rfl rfl ?_
  refine ty_s_gv (q := 26) S rfl rfl rfl (List.mem_of_getElem? (i := 1) rfl) hs ?_
  refine mi_wp_p (pc' := 94) (st' := [.int (Int32.ofInt n), .ref 26, .int (Int32.ofInt a), .ref 43]) rfl rfl rfl ?_
  refine ty_s_ci rfl rfl rfl rfl rfl rfl (mi_cal_v2 (np := 1) (args := [.ref 26, .int (Int32.ofInt n)]) (rest := [.int (Int32.ofInt a), .ref 43]) rfl rfl rfl rfl rfl (Nat.le_of_ble_eq_true rfl) rfl rfl (Nat.le_of_ble_eq_true rfl) (ty_rcS S (List.mem_of_getElem? (i := 16) rfl))) (Nat.le_of_ble_eq_true rfl) S (st26_bOf n0 n1 n2) ?_
  intro x hh σu S f P
  obtain ⟨q1, q2⟩ := P
  rw [q2] at S
  rw [q1, e3]
  clear q1 q2
  replace fr := mi_Fm_tr fr f
  refine mi_wp_p (pc' := 98) (st' := [.int (Int32.ofInt 1), .int (Int32.ofInt b), .int (Int32.ofInt a), .ref 43]) rfl rfl rfl ?_
  refine mi_s_add rfl rfl ?_
  refine ty_s_cv rfl rfl rfl rfl rfl rfl (mi_cal_v2 (np := 2) (args := [.ref 43, .int (Int32.ofInt a), .int (Int32.ofInt (b + 1))]) (rest := []) rfl rfl rfl rfl rfl (Nat.le_of_ble_eq_true rfl) rfl rfl (Nat.le_of_ble_eq_true rfl) (ty_rcS S (List.mem_of_getElem? (i := 19) rfl))) (Nat.le_of_ble_eq_true rfl) S H ?_
  intro hh σ1 S f P1
  replace fr := mi_Fm_tr fr f
  refine mi_wp_p (pc' := 213) rfl rfl rfl ?_
  exact ty_s_ret S fr rfl rfl rfl rfl ⟨rfl, P1⟩
theorem ts_let {X : mi_X} {σ : mi_Sg} {d : Nat} {n a b : Int} {P : mi_Sg → Prop} (hs : mi_sF σ 43 6 = 26) (n0 : 0 ≤ n) (n1 : n < mi_sF σ 26 7) (n2 : mi_sF σ 26 7 ≤ 1024) (e2 : mi_sA σ 28 n = a) (e3 : mi_sA σ 29 n = b) (H : ty_Cv X (d + 1) mi_M18 [(0, .ref 43), (1, .int (Int32.ofInt a)), (2, .int (Int32.ofInt b))] σ P) : ty_Cv X (d + 2) mi_M23 [(0, .ref 43), (1, .int (Int32.ofInt 16)), (2, .int (Int32.ofInt n))] σ (fun σ' => P σ') := by
  intro h S
  have fr := mi_Fm_rf h
  refine mi_wp_p (pc' := 1) (st' := [.ref 43]) rfl rfl rfl ?_
  refine ty_s_gv (q := 26) S rfl rfl rfl (List.mem_of_getElem? (i := 1) rfl) hs ?_
  refine mi_wp_p (pc' := 5) (st' := [.int (Int32.ofInt n), .ref 26]) rfl rfl rfl ?_
  refine ty_s_ci rfl rfl rfl rfl rfl rfl (mi_cal_v2 (np := 1) (args := [.ref 26, .int (Int32.ofInt n)]) (rest := []) rfl rfl rfl rfl rfl (Nat.le_of_ble_eq_true rfl) rfl rfl (Nat.le_of_ble_eq_true rfl) (ty_rcS S (List.mem_of_getElem? (i := 16) rfl))) (Nat.le_of_ble_eq_true rfl) S (st26_aOf n0 n1 n2) ?_
  intro x hh σu S f P
  obtain ⟨q1, q2⟩ := P
  rw [q2] at S
  rw [q1, e2]
  clear q1 q2
  replace fr := mi_Fm_tr fr f
  refine mi_wp_p (pc' := 9) (l' := [(3, .int (Int32.ofInt a)), (0, .ref 43), (1, .int (Int32.ofInt 16)), (2, .int (Int32.ofInt n))]) (st' := []) rfl rfl rfl ?_
  refine mi_wp_p (pc' := 10) (st' := [.int (Int32.ofInt 16)]) rfl rfl rfl ?_
  refine mi_wp_p (pc' := 149) (l' := [(3, .int (Int32.ofInt a)), (0, .ref 43), (1, .int (Int32.ofInt 16)), (2, .int (Int32.ofInt n))]) (st' := []) rfl rfl rfl ?_
  refine mi_wp_p (pc' := 150) (st' := [.ref 43]) rfl rfl rfl ?_
  refine mi_wp_p (pc' := 151) (st' := [.int (Int32.ofInt a), .ref 43]) rfl rfl rfl ?_
  refine mi_wp_p (pc' := 152) (st' := [.ref 43, .int (Int32.ofInt a), .ref 43]) rfl rfl rfl ?_
  refine ty_s_gv (q := 26) S rfl rfl rfl (List.mem_of_getElem? (i := 1) rfl) hs ?_
  refine mi_wp_p (pc' := 156) (st' := [.int (Int32.ofInt n), .ref 26, .int (Int32.ofInt a), .ref 43]) rfl rfl rfl ?_
  refine ty_s_ci rfl rfl rfl rfl rfl rfl (mi_cal_v2 (np := 1) (args := [.ref 26, .int (Int32.ofInt n)]) (rest := [.int (Int32.ofInt a), .ref 43]) rfl rfl rfl rfl rfl (Nat.le_of_ble_eq_true rfl) rfl rfl (Nat.le_of_ble_eq_true rfl) (ty_rcS S (List.mem_of_getElem? (i := 16) rfl))) (Nat.le_of_ble_eq_true rfl) S (st26_bOf n0 n1 n2) ?_
  intro x hh σu S f P
  obtain ⟨q1, q2⟩ := P
  rw [q2] at S
  rw [q1, e3]
  clear q1 q2
  replace fr := mi_Fm_tr fr f
  refine ty_s_cv rfl rfl rfl rfl rfl rfl (mi_cal_v2 (np := 2) (args := [.ref 43, .int (Int32.ofInt a), .int (Int32.ofInt b)]) (rest := []) rfl rfl rfl rfl rfl (Nat.le_of_ble_eq_true rfl) rfl rfl (Nat.le_of_ble_eq_true rfl) (ty_rcS S (List.mem_of_getElem? (i := 19) rfl))) (Nat.le_of_ble_eq_true rfl) S H ?_
  intro hh σ1 S f P1
  replace fr := mi_Fm_tr fr f
  refine mi_wp_p (pc' := 213) rfl rfl rfl ?_
  exact ty_s_ret S fr rfl rfl rfl rfl ⟨rfl, P1⟩
theorem ts_form {X : mi_X} {σ : mi_Sg} {d : Nat} {n a : Int} {P : mi_Sg → Prop} (hs : mi_sF σ 43 6 = 26) (n0 : 0 ≤ n) (n1 : n < mi_sF σ 26 7) (n2 : mi_sF σ 26 7 ≤ 1024) (e2 : mi_sA σ 28 n = a) (v0 : 0 < mi_sF σ 48 7) (v1 : mi_sF σ 48 7 ≤ 300) : ty_Cv X (d + 2) mi_M23 [(0, .ref 43), (1, .int (Int32.ofInt 11)), (2, .int (Int32.ofInt n))] σ (fun σ' => σ' = mi_uF (mi_uF (mi_uF σ 48 7 (mi_sF σ 48 7 - 1)) 43 10 (mi_sA σ 51 (mi_sF σ 48 7 - 1))) 43 11 a) := by
  intro h S
  have fr := mi_Fm_rf h
  refine mi_wp_p (pc' := 1) (st' := [.ref 43]) rfl rfl rfl ?_
  refine ty_s_gv (q := 26) S rfl rfl rfl (List.mem_of_getElem? (i := 1) rfl) hs ?_
  refine mi_wp_p (pc' := 5) (st' := [.int (Int32.ofInt n), .ref 26]) rfl rfl rfl ?_
  refine ty_s_ci rfl rfl rfl rfl rfl rfl (mi_cal_v2 (np := 1) (args := [.ref 26, .int (Int32.ofInt n)]) (rest := []) rfl rfl rfl rfl rfl (Nat.le_of_ble_eq_true rfl) rfl rfl (Nat.le_of_ble_eq_true rfl) (ty_rcS S (List.mem_of_getElem? (i := 16) rfl))) (Nat.le_of_ble_eq_true rfl) S (st26_aOf n0 n1 n2) ?_
  intro x hh σu S f P
  obtain ⟨q1, q2⟩ := P
  rw [q2] at S
  rw [q1, e2]
  clear q1 q2
  replace fr := mi_Fm_tr fr f
  refine mi_wp_p (pc' := 9) (l' := [(3, .int (Int32.ofInt a)), (0, .ref 43), (1, .int (Int32.ofInt 11)), (2, .int (Int32.ofInt n))]) (st' := []) rfl rfl rfl ?_
  refine mi_wp_p (pc' := 10) (st' := [.int (Int32.ofInt 11)]) rfl rfl rfl ?_
  refine mi_wp_p (pc' := 68) (l' := [(3, .int (Int32.ofInt a)), (0, .ref 43), (1, .int (Int32.ofInt 11)), (2, .int (Int32.ofInt n))]) (st' := []) rfl rfl rfl ?_
  refine mi_wp_p (pc' := 69) (st' := [.ref 43]) rfl rfl rfl ?_
  refine mi_wp_p (pc' := 70) (st' := [.ref 43, .ref 43]) rfl rfl rfl ?_
  refine ty_s_gr S rfl rfl rfl (List.mem_of_getElem? (i := 52) rfl) ?_
  refine ty_s_ci rfl rfl rfl rfl rfl rfl (mi_cal_v2 (np := 0) (args := [.ref 48]) (rest := [.ref 43]) rfl rfl rfl rfl rfl (Nat.le_of_ble_eq_true rfl) rfl rfl (Nat.le_of_ble_eq_true rfl) (ty_rcS S (List.mem_of_getElem? (i := 24) rfl))) (Nat.le_of_ble_eq_true rfl) S (fo_takeValue v0 v1) ?_
  intro x hh σ1 S f P
  obtain ⟨e1, e2⟩ := P
  subst e2
  rw [e1]
  clear e1
  replace fr := mi_Fm_tr fr f
  refine ty_s_pf S rfl rfl rfl (List.mem_of_getElem? (i := 21) rfl) (by decide) mi_fit_int (Or.inl rfl) ?_
  intro h8 S f
  replace fr := mi_Fm_tr fr f
  refine mi_wp_p (pc' := 80) (st' := [.ref 43]) rfl rfl rfl ?_
  refine mi_wp_p (pc' := 81) (st' := [.int (Int32.ofInt a), .ref 43]) rfl rfl rfl ?_
  refine ty_s_pf S rfl rfl rfl (List.mem_of_getElem? (i := 22) rfl) (by decide) mi_fit_int (Or.inl rfl) ?_
  intro h9 S f
  replace fr := mi_Fm_tr fr f
  refine mi_wp_p (pc' := 213) rfl rfl rfl ?_
  exact ty_s_ret S fr rfl rfl rfl rfl ⟨rfl, rfl⟩
theorem ts_bind {X : mi_X} {σ : mi_Sg} {d : Nat} {n a : Int} {P : mi_Sg → Prop} (hs : mi_sF σ 43 6 = 26) (n0 : 0 ≤ n) (n1 : n < mi_sF σ 26 7) (n2 : mi_sF σ 26 7 ≤ 1024) (e2 : mi_sA σ 28 n = a) (t0 : 0 ≤ a) (t1 : a < mi_sF σ 3 7) (t2 : mi_sF σ 3 7 ≤ 301) (z0 : 0 ≤ mi_sF σ 44 3) (z1 : mi_sF σ 44 3 < 300) (hu : mi_sF σ 9 8 < 512) : ty_Cv X (d + 2) mi_M23 [(0, .ref 43), (1, .int (Int32.ofInt 15)), (2, .int (Int32.ofInt n))] σ (fun σ' => σ' = (mi_uF (mi_uA (mi_uA (mi_uE (ty_mk σ 3 0 0 0) 45 (mi_sF (ty_mk σ 3 0 0 0) 44 3) (mi_sE σ 8 a)) 46 (mi_sF (ty_mk σ 3 0 0 0) 44 3) (mi_sF σ 9 8)) 47 (mi_sF (ty_mk σ 3 0 0 0) 44 3) 0) 44 3 (mi_sF (ty_mk σ 3 0 0 0) 44 3 + 1))) := by
  intro h S
  have fr := mi_Fm_rf h
  refine mi_wp_p (pc' := 1) (st' := [.ref 43]) rfl rfl rfl ?_
  refine ty_s_gv (q := 26) S rfl rfl rfl (List.mem_of_getElem? (i := 1) rfl) hs ?_
  refine mi_wp_p (pc' := 5) (st' := [.int (Int32.ofInt n), .ref 26]) rfl rfl rfl ?_
  refine ty_s_ci rfl rfl rfl rfl rfl rfl (mi_cal_v2 (np := 1) (args := [.ref 26, .int (Int32.ofInt n)]) (rest := []) rfl rfl rfl rfl rfl (Nat.le_of_ble_eq_true rfl) rfl rfl (Nat.le_of_ble_eq_true rfl) (ty_rcS S (List.mem_of_getElem? (i := 16) rfl))) (Nat.le_of_ble_eq_true rfl) S (st26_aOf n0 n1 n2) ?_
  intro x hh σu S f P
  obtain ⟨q1, q2⟩ := P
  rw [q2] at S
  rw [q1, e2]
  clear q1 q2
  replace fr := mi_Fm_tr fr f
  refine mi_wp_p (pc' := 9) (l' := [(3, .int (Int32.ofInt a)), (0, .ref 43), (1, .int (Int32.ofInt 15)), (2, .int (Int32.ofInt n))]) (st' := []) rfl rfl rfl ?_
  refine mi_wp_p (pc' := 10) (st' := [.int (Int32.ofInt 15)]) rfl rfl rfl ?_
  refine mi_wp_p (pc' := 123) (l' := [(3, .int (Int32.ofInt a)), (0, .ref 43), (1, .int (Int32.ofInt 15)), (2, .int (Int32.ofInt n))]) (st' := []) rfl rfl rfl ?_
  refine mi_wp_p (pc' := 124) (st' := [.ref 43]) rfl rfl rfl ?_
  refine ty_s_gr S rfl rfl rfl (List.mem_of_getElem? (i := 53) rfl) ?_
  refine mi_wp_p (pc' := 128) (st' := [.ref 43, .ref 44]) rfl rfl rfl ?_
  refine ty_s_gr S rfl rfl rfl (List.mem_of_getElem? (i := 48) rfl) ?_
  refine mi_wp_p (pc' := 132) (st' := [.int (Int32.ofInt a), .ref 3, .ref 44]) rfl rfl rfl ?_
  refine ty_s_cj rfl rfl rfl rfl rfl rfl (mi_cal_v2 (np := 1) (args := [.ref 3, .int (Int32.ofInt a)]) (rest := [.ref 44]) rfl rfl rfl rfl rfl (Nat.le_of_ble_eq_true rfl) rfl rfl (Nat.le_of_ble_eq_true rfl) (ty_rcS S (List.mem_of_getElem? (i := 3) rfl))) (Nat.le_of_ble_eq_true rfl) S (to_keyOf t0 t1 t2) ?_
  intro x hh σu S f P
  obtain ⟨e1, e2⟩ := P
  rw [e2] at S
  rw [e1]
  clear e1 e2
  replace fr := mi_Fm_tr fr f
  refine mi_wp_p (pc' := 136) (st' := [.ref 43, .long (mi_sE σ 8 a), .ref 44]) rfl rfl rfl ?_
  refine ty_s_gr S rfl rfl rfl (List.mem_of_getElem? (i := 49) rfl) ?_
  refine ty_s_ci rfl rfl rfl rfl rfl rfl (mi_cal_v2 (np := 0) (args := [.ref 9]) (rest := [.long (mi_sE σ 8 a), .ref 44]) rfl rfl rfl rfl rfl (Nat.le_of_ble_eq_true rfl) rfl rfl (Nat.le_of_ble_eq_true rfl) (ty_rcS S (List.mem_of_getElem? (i := 5) rfl))) (Nat.le_of_ble_eq_true rfl) S (ty_unknown hu) ?_
  intro x hh σ1 S f P
  obtain ⟨e1, e2⟩ := P
  subst e2
  rw [e1]
  clear e1
  replace fr := mi_Fm_tr fr f
  refine mi_wp_p (pc' := 143) (st' := [.int (Int32.ofInt 0), .int (Int32.ofInt (mi_sF σ 9 8)), .long (mi_sE σ 8 a), .ref 44]) rfl rfl rfl ?_
  refine ty_s_cv rfl rfl rfl rfl rfl rfl (mi_cal_v2 (np := 3) (args := [.ref 44, .long (mi_sE σ 8 a), .int (Int32.ofInt (mi_sF σ 9 8)), .int (Int32.ofInt 0)]) (rest := []) rfl rfl rfl rfl rfl (Nat.le_of_ble_eq_true rfl) rfl rfl (Nat.le_of_ble_eq_true rfl) (ty_rcS S (List.mem_of_getElem? (i := 23) rfl))) (Nat.le_of_ble_eq_true rfl) S (sc_bind (σ := (ty_mk σ 3 0 0 0)) z0 z1 (Or.inl rfl)) ?_
  intro hh σ2 S f P
  subst P
  replace fr := mi_Fm_tr fr f
  refine mi_wp_p (pc' := 213) rfl rfl rfl ?_
  exact ty_s_ret S fr rfl rfl rfl rfl ⟨rfl, rfl⟩
theorem ck_end0 {X : mi_X} {σ : mi_Sg} {d : Nat} {st nm : Int} {R : mi_Sg → Prop} (hs : mi_sF σ 43 6 = 26) (h0 : 0 ≤ st) (h1 : st < mi_sF σ 26 7) (h2 : mi_sF σ 26 7 ≤ 1024) (H : ty_Ci X (d + 2) mi_M128 [(0, .ref 9), (1, .int (Int32.ofInt (mi_sA σ 33 st))), (2, .int (Int32.ofInt (mi_sF σ 43 9)))] σ (fun x σ1 => x = 1 ∧ (mi_sF σ1 2 0 = 0 ∧ mi_sF σ1 43 10 = 0 ∧ ty_Ci X (d + 3) mi_M143 [(0, .ref 9), (1, .int (Int32.ofInt (mi_sA σ 33 st)))] σ1 (fun y σ2 => (0 ≤ y ∧ y ≤ 120) ∧ ty_Cv X (d + 3) mi_M138 [(0, .ref 9), (1, .int (Int32.ofInt (mi_sA σ 33 st)))] (mi_uF (mi_uF σ2 9 11 (mi_sF σ2 9 11 + 1)) 9 10 0) (fun σ3 => (0 ≤ mi_sF σ3 17 14 ∧ mi_sF σ3 17 14 < 24) ∧ R (mi_uF (mi_uF (mi_uF (mi_uF (mi_uF (mi_uA (mi_uE σ3 23 (mi_sF σ3 17 14) (mi_sB σ3 43 8)) 24 (mi_sF σ3 17 14) (mi_sA σ 33 st)) 17 14 (mi_sF σ3 17 14 + 1)) 44 3 0) 43 7 (-1)) 43 9 0) 43 10 0)))))) : ty_Cv X (d + 4) mi_M19 [(0, .ref 43), (1, .int (Int32.ofInt st)), (2, .int (Int32.ofInt nm))] σ (fun σ' => R σ') := by
  intro h S
  have fr := mi_Fm_rf h
  refine mi_wp_p (pc' := 1) (st' := [.ref 43]) rfl rfl rfl ?_
  refine ty_s_gv (q := 26) S rfl rfl rfl (List.mem_of_getElem? (i := 1) rfl) hs ?_
  refine mi_wp_p (pc' := 5) (st' := [.int (Int32.ofInt st), .ref 26]) rfl rfl rfl ?_
  refine ty_s_ci rfl rfl rfl rfl rfl rfl (mi_cal_v2 (np := 1) (args := [.ref 26, .int (Int32.ofInt st)]) (rest := []) rfl rfl rfl rfl rfl (Nat.le_of_ble_eq_true rfl) rfl rfl (Nat.le_of_ble_eq_true rfl) (ty_rcS S (List.mem_of_getElem? (i := 16) rfl))) (Nat.le_of_ble_eq_true rfl) S (st26_typeOf h0 h1 h2) ?_
  intro x hh σu S f P
  obtain ⟨e1, e2⟩ := P
  rw [e2] at S
  rw [e1]
  clear e1 e2
  replace fr := mi_Fm_tr fr f
  refine mi_wp_p (pc' := 9) (l' := [(3, .int (Int32.ofInt (mi_sA σ 33 st))), (0, .ref 43), (1, .int (Int32.ofInt st)), (2, .int (Int32.ofInt nm))]) (st' := []) rfl rfl rfl ?_
  refine mi_wp_p (pc' := 10) (st' := [.ref 43]) rfl rfl rfl ?_
  refine mi_wp_p (pc' := 11) (st' := [.int (Int32.ofInt st), .ref 43]) rfl rfl rfl ?_
  refine mi_wp_p (pc' := 12) (st' := [.ref 43, .int (Int32.ofInt st), .ref 43]) rfl rfl rfl ?_
  refine ty_s_gf (x := mi_sF σ 43 9) S rfl rfl rfl (List.mem_of_getElem? (i := 20) rfl) rfl ?_
  refine ty_s_cv rfl rfl rfl rfl rfl rfl (mi_cal_v2 (np := 2) (args := [.ref 43, .int (Int32.ofInt st), .int (Int32.ofInt (mi_sF σ 43 9))]) (rest := []) rfl rfl rfl rfl rfl (Nat.le_of_ble_eq_true rfl) rfl rfl (Nat.le_of_ble_eq_true rfl) (ty_rcS S (List.mem_of_getElem? (i := 19) rfl))) (Nat.le_of_ble_eq_true rfl) S (ck_need26 (d := d + 1) hs h0 h1 h2 H) ?_
  intro hh σ1 S f P
  obtain ⟨f0, g10, H2⟩ := P
  replace fr := mi_Fm_tr fr f
  refine mi_wp_p (pc' := 19) (st' := [.ref 43]) rfl rfl rfl ?_
  refine ty_s_gr S rfl rfl rfl (List.mem_of_getElem? (i := 51) rfl) ?_
  refine ty_s_ci rfl rfl rfl rfl rfl rfl (mi_cal_v2 (np := 0) (args := [.ref 2]) (rest := []) rfl rfl rfl rfl rfl (Nat.le_of_ble_eq_true rfl) rfl rfl (Nat.le_of_ble_eq_true rfl) (ty_rcS S (List.mem_of_getElem? (i := 1) rfl))) (Nat.le_of_ble_eq_true rfl) S (fa_stands f0) ?_
  intro x hh σu S f P
  obtain ⟨e1, e2⟩ := P
  rw [e2] at S
  rw [e1]
  clear e1 e2
  replace fr := mi_Fm_tr fr f
  refine mi_s_if1 (t := 29) rfl rfl rfl (by unfold mi_R; omega) (fun _ => ?_) (fun hc_ => absurd (show (0 : Int) = 0 by omega) hc_)
  refine mi_wp_p (pc' := 30) (st' := [.ref 43]) rfl rfl rfl ?_
  refine ty_s_gf (x := mi_sF σ1 43 10) S rfl rfl rfl (List.mem_of_getElem? (i := 21) rfl) rfl ?_
  refine mi_s_if1 (t := 62) rfl rfl rfl (by unfold mi_R; omega) (fun _ => ?_) (fun hc_ => absurd (show (mi_sF σ1 43 10) = 0 by omega) hc_)
  refine mi_wp_p (pc' := 63) (st' := [.ref 43]) rfl rfl rfl ?_
  refine ty_s_gf (x := mi_sF σ1 43 10) S rfl rfl rfl (List.mem_of_getElem? (i := 21) rfl) rfl ?_
  refine mi_s_if1 (t := 73) rfl rfl rfl (by unfold mi_R; omega) (fun hc_ => absurd (show (mi_sF σ1 43 10) ≠ 0 from hc_) (by omega)) (fun _ => ?_)
  refine mi_wp_p (pc' := 70) (st' := [.int (Int32.ofInt (mi_sA σ 33 st))]) rfl rfl rfl ?_
  refine mi_wp_p (pc' := 77) rfl rfl rfl ?_
  refine mi_wp_p (pc' := 79) (l' := [(4, .int (Int32.ofInt (mi_sA σ 33 st))), (3, .int (Int32.ofInt (mi_sA σ 33 st))), (0, .ref 43), (1, .int (Int32.ofInt st)), (2, .int (Int32.ofInt nm))]) (st' := []) rfl rfl rfl ?_
  refine mi_wp_p (pc' := 80) (st' := [.ref 43]) rfl rfl rfl ?_
  refine ty_s_gr S rfl rfl rfl (List.mem_of_getElem? (i := 49) rfl) ?_
  refine mi_wp_p (pc' := 85) (st' := [.int (Int32.ofInt (mi_sA σ 33 st)), .ref 9]) rfl rfl rfl ?_
  refine ty_s_ci rfl rfl rfl rfl rfl rfl (mi_cal_v2 (np := 1) (args := [.ref 9, .int (Int32.ofInt (mi_sA σ 33 st))]) (rest := []) rfl rfl rfl rfl rfl (Nat.le_of_ble_eq_true rfl) rfl rfl (Nat.le_of_ble_eq_true rfl) (ty_rcS S (List.mem_of_getElem? (i := 5) rfl))) (Nat.le_of_ble_eq_true rfl) S H2 ?_
  intro x hh σ2 S f P
  obtain ⟨⟨p0, p1⟩, H3⟩ := P
  replace fr := mi_Fm_tr fr f
  refine mi_s_k (pc' := 90) (e := 120) rfl rfl rfl (by decide +kernel) ?_
  refine mi_s_if2 (t := 101) rfl rfl rfl (by unfold mi_R; omega) (by unfold mi_R; omega) (fun _ => ?_) (fun hc_ => absurd (show x ≤ 120 by omega) hc_)
  refine mi_wp_p (pc' := 102) (st' := [.ref 43]) rfl rfl rfl ?_
  refine ty_s_gr S rfl rfl rfl (List.mem_of_getElem? (i := 49) rfl) ?_
  refine ty_s_cv rfl rfl rfl rfl rfl rfl (mi_cal_v2 (np := 0) (args := [.ref 9]) (rest := []) rfl rfl rfl rfl rfl (Nat.le_of_ble_eq_true rfl) rfl rfl (Nat.le_of_ble_eq_true rfl) (ty_rcS S (List.mem_of_getElem? (i := 5) rfl))) (Nat.le_of_ble_eq_true rfl) S ty_begin ?_
  intro hh σb S f P
  subst P
  replace fr := mi_Fm_tr fr f
  refine mi_wp_p (pc' := 109) (st' := [.ref 43]) rfl rfl rfl ?_
  refine ty_s_gr S rfl rfl rfl (List.mem_of_getElem? (i := 49) rfl) ?_
  refine mi_wp_p (pc' := 114) (st' := [.int (Int32.ofInt (mi_sA σ 33 st)), .ref 9]) rfl rfl rfl ?_
  refine ty_s_cv rfl rfl rfl rfl rfl rfl (mi_cal_v2 (np := 1) (args := [.ref 9, .int (Int32.ofInt (mi_sA σ 33 st))]) (rest := []) rfl rfl rfl rfl rfl (Nat.le_of_ble_eq_true rfl) rfl rfl (Nat.le_of_ble_eq_true rfl) (ty_rcS S (List.mem_of_getElem? (i := 5) rfl))) (Nat.le_of_ble_eq_true rfl) S H3 ?_
  intro hh σ3 S f P
  obtain ⟨⟨c0, c1⟩, hR⟩ := P
  replace fr := mi_Fm_tr fr f
  refine mi_wp_p (pc' := 118) (st' := [.ref 43]) rfl rfl rfl ?_
  refine ty_s_gr S rfl rfl rfl (List.mem_of_getElem? (i := 50) rfl) ?_
  refine mi_wp_p (pc' := 122) (st' := [.ref 43, .ref 17]) rfl rfl rfl ?_
  refine ty_s_gj (x := mi_sB σ3 43 8) S rfl rfl rfl (List.mem_of_getElem? (i := 0) rfl) rfl ?_
  refine mi_wp_p (pc' := 127) (st' := [.int (Int32.ofInt (mi_sA σ 33 st)), .long (mi_sB σ3 43 8), .ref 17]) rfl rfl rfl ?_
  refine ty_s_cv rfl rfl rfl rfl rfl rfl (mi_cal_v2 (np := 2) (args := [.ref 17, .long (mi_sB σ3 43 8), .int (Int32.ofInt (mi_sA σ 33 st))]) (rest := []) rfl rfl rfl rfl rfl (Nat.le_of_ble_eq_true rfl) rfl rfl (Nat.le_of_ble_eq_true rfl) (ty_rcS S (List.mem_of_getElem? (i := 10) rfl))) (Nat.le_of_ble_eq_true rfl) S (kn_addDefinition c0 c1) ?_
  intro hh σ4 S f P
  subst P
  replace fr := mi_Fm_tr fr f
  refine mi_wp_p (pc' := 131) (st' := [.ref 43]) rfl rfl rfl ?_
  refine ty_s_cv rfl rfl rfl rfl rfl rfl (mi_cal_v2 (np := 0) (args := [.ref 43]) (rest := []) rfl rfl rfl rfl rfl (Nat.le_of_ble_eq_true rfl) rfl rfl (Nat.le_of_ble_eq_true rfl) (ty_rcS S (List.mem_of_getElem? (i := 19) rfl))) (Nat.le_of_ble_eq_true rfl) S ck_leave ?_
  intro hh σl S f P
  subst P
  replace fr := mi_Fm_tr fr f
  exact ty_s_ret S fr rfl rfl rfl rfl ⟨rfl, hR⟩
theorem ck_end1 {X : mi_X} {σ : mi_Sg} {d : Nat} {st nm : Int} {R : mi_Sg → Prop} (hs : mi_sF σ 43 6 = 26) (h0 : 0 ≤ st) (h1 : st < mi_sF σ 26 7) (h2 : mi_sF σ 26 7 ≤ 1024) (q0 : 0 < mi_sF σ 43 10) (q1 : mi_sF σ 43 10 < 1000) (H : ty_Ci X (d + 2) mi_M128 [(0, .ref 9), (1, .int (Int32.ofInt (mi_sA σ 33 st))), (2, .int (Int32.ofInt (mi_sF σ 43 9)))] σ (fun x σ1 => x = 1 ∧ (mi_sF σ1 2 0 = 0 ∧ mi_sF σ1 43 10 = mi_sF σ 43 10 ∧ ty_Ci X (d + 3) mi_M128 [(0, .ref 9), (1, .int (Int32.ofInt (mi_sA σ 33 st))), (2, .int (Int32.ofInt (mi_sF σ 43 10)))] σ1 (fun x σ2 => x = 1 ∧ mi_sF σ2 43 10 = mi_sF σ 43 10 ∧ ty_Ci X (d + 3) mi_M143 [(0, .ref 9), (1, .int (Int32.ofInt (mi_sF σ 43 10)))] σ2 (fun y σ2 => (0 ≤ y ∧ y ≤ 120) ∧ ty_Cv X (d + 3) mi_M138 [(0, .ref 9), (1, .int (Int32.ofInt (mi_sF σ 43 10)))] (mi_uF (mi_uF σ2 9 11 (mi_sF σ2 9 11 + 1)) 9 10 0) (fun σ3 => (0 ≤ mi_sF σ3 17 14 ∧ mi_sF σ3 17 14 < 24) ∧ R (mi_uF (mi_uF (mi_uF (mi_uF (mi_uF (mi_uA (mi_uE σ3 23 (mi_sF σ3 17 14) (mi_sB σ3 43 8)) 24 (mi_sF σ3 17 14) (mi_sF σ 43 10)) 17 14 (mi_sF σ3 17 14 + 1)) 44 3 0) 43 7 (-1)) 43 9 0) 43 10 0))))))) : ty_Cv X (d + 4) mi_M19 [(0, .ref 43), (1, .int (Int32.ofInt st)), (2, .int (Int32.ofInt nm))] σ (fun σ' => R σ') := by
  intro h S
  have fr := mi_Fm_rf h
  refine mi_wp_p (pc' := 1) (st' := [.ref 43]) rfl rfl rfl ?_
  refine ty_s_gv (q := 26) S rfl rfl rfl (List.mem_of_getElem? (i := 1) rfl) hs ?_
  refine mi_wp_p (pc' := 5) (st' := [.int (Int32.ofInt st), .ref 26]) rfl rfl rfl ?_
  refine ty_s_ci rfl rfl rfl rfl rfl rfl (mi_cal_v2 (np := 1) (args := [.ref 26, .int (Int32.ofInt st)]) (rest := []) rfl rfl rfl rfl rfl (Nat.le_of_ble_eq_true rfl) rfl rfl (Nat.le_of_ble_eq_true rfl) (ty_rcS S (List.mem_of_getElem? (i := 16) rfl))) (Nat.le_of_ble_eq_true rfl) S (st26_typeOf h0 h1 h2) ?_
  intro x hh σu S f P
  obtain ⟨e1, e2⟩ := P
  rw [e2] at S
  rw [e1]
  clear e1 e2
  replace fr := mi_Fm_tr fr f
  refine mi_wp_p (pc' := 9) (l' := [(3, .int (Int32.ofInt (mi_sA σ 33 st))), (0, .ref 43), (1, .int (Int32.ofInt st)), (2, .int (Int32.ofInt nm))]) (st' := []) rfl rfl rfl ?_
  refine mi_wp_p (pc' := 10) (st' := [.ref 43]) rfl rfl rfl ?_
  refine mi_wp_p (pc' := 11) (st' := [.int (Int32.ofInt st), .ref 43]) rfl rfl rfl ?_
  refine mi_wp_p (pc' := 12) (st' := [.ref 43, .int (Int32.ofInt st), .ref 43]) rfl rfl rfl ?_
  refine ty_s_gf (x := mi_sF σ 43 9) S rfl rfl rfl (List.mem_of_getElem? (i := 20) rfl) rfl ?_
  refine ty_s_cv rfl rfl rfl rfl rfl rfl (mi_cal_v2 (np := 2) (args := [.ref 43, .int (Int32.ofInt st), .int (Int32.ofInt (mi_sF σ 43 9))]) (rest := []) rfl rfl rfl rfl rfl (Nat.le_of_ble_eq_true rfl) rfl rfl (Nat.le_of_ble_eq_true rfl) (ty_rcS S (List.mem_of_getElem? (i := 19) rfl))) (Nat.le_of_ble_eq_true rfl) S (ck_need26 (d := d + 1) hs h0 h1 h2 H) ?_
  intro hh σ1 S f P
  obtain ⟨f0, g10, H2⟩ := P
  replace fr := mi_Fm_tr fr f
  refine mi_wp_p (pc' := 19) (st' := [.ref 43]) rfl rfl rfl ?_
  refine ty_s_gr S rfl rfl rfl (List.mem_of_getElem? (i := 51) rfl) ?_
  refine ty_s_ci rfl rfl rfl rfl rfl rfl (mi_cal_v2 (np := 0) (args := [.ref 2]) (rest := []) rfl rfl rfl rfl rfl (Nat.le_of_ble_eq_true rfl) rfl rfl (Nat.le_of_ble_eq_true rfl) (ty_rcS S (List.mem_of_getElem? (i := 1) rfl))) (Nat.le_of_ble_eq_true rfl) S (fa_stands f0) ?_
  intro x hh σu S f P
  obtain ⟨e1, e2⟩ := P
  rw [e2] at S
  rw [e1]
  clear e1 e2
  replace fr := mi_Fm_tr fr f
  refine mi_s_if1 (t := 29) rfl rfl rfl (by unfold mi_R; omega) (fun _ => ?_) (fun hc_ => absurd (show (0 : Int) = 0 by omega) hc_)
  refine mi_wp_p (pc' := 30) (st' := [.ref 43]) rfl rfl rfl ?_
  refine ty_s_gf (x := mi_sF σ1 43 10) S rfl rfl rfl (List.mem_of_getElem? (i := 21) rfl) rfl ?_
  refine mi_s_if1 (t := 62) rfl rfl rfl (by unfold mi_R; omega) (fun hc_ => absurd (show (mi_sF σ1 43 10) = 0 from hc_) (by omega)) (fun _ => ?_)
  refine mi_wp_p (pc' := 37) (st' := [.ref 43]) rfl rfl rfl ?_
  refine ty_s_gr S rfl rfl rfl (List.mem_of_getElem? (i := 49) rfl) ?_
  refine mi_wp_p (pc' := 41) (st' := [.int (Int32.ofInt (mi_sA σ 33 st)), .ref 9]) rfl rfl rfl ?_
  refine mi_wp_p (pc' := 42) (st' := [.ref 43, .int (Int32.ofInt (mi_sA σ 33 st)), .ref 9]) rfl rfl rfl ?_
  refine ty_s_gf (x := mi_sF σ1 43 10) S rfl rfl rfl (List.mem_of_getElem? (i := 21) rfl) rfl ?_
  refine ty_s_ci rfl rfl rfl rfl rfl rfl (mi_cal_v2 (np := 2) (args := [.ref 9, .int (Int32.ofInt (mi_sA σ 33 st)), .int (Int32.ofInt (mi_sF σ1 43 10))]) (rest := []) rfl rfl rfl rfl rfl (Nat.le_of_ble_eq_true rfl) rfl rfl (Nat.le_of_ble_eq_true rfl) (ty_rcS S (List.mem_of_getElem? (i := 5) rfl))) (Nat.le_of_ble_eq_true rfl) S (by rw [g10]; exact H2) ?_
  intro x hh σf S f P
  obtain ⟨e1, g11, H2⟩ := P
  rw [e1]
  clear e1
  replace fr := mi_Fm_tr fr f
  refine mi_s_if1 (t := 62) rfl rfl rfl (by unfold mi_R; omega) (fun _ => ?_) (fun hc_ => absurd (show (1 : Int) ≠ 0 by omega) hc_)
  refine mi_wp_p (pc' := 63) (st' := [.ref 43]) rfl rfl rfl ?_
  refine ty_s_gf (x := mi_sF σf 43 10) S rfl rfl rfl (List.mem_of_getElem? (i := 21) rfl) rfl ?_
  refine mi_s_if1 (t := 73) rfl rfl rfl (by unfold mi_R; omega) (fun _ => ?_) (fun hc_ => absurd (show (mi_sF σf 43 10) ≠ 0 by omega) hc_)
  refine mi_wp_p (pc' := 74) (st' := [.ref 43]) rfl rfl rfl ?_
  refine ty_s_gf (x := mi_sF σf 43 10) S rfl rfl rfl (List.mem_of_getElem? (i := 21) rfl) rfl ?_
  refine mi_wp_p (pc' := 79) (l' := [(4, .int (Int32.ofInt (mi_sF σf 43 10))), (3, .int (Int32.ofInt (mi_sA σ 33 st))), (0, .ref 43), (1, .int (Int32.ofInt st)), (2, .int (Int32.ofInt nm))]) (st' := []) rfl rfl rfl ?_
  refine mi_wp_p (pc' := 80) (st' := [.ref 43]) rfl rfl rfl ?_
  refine ty_s_gr S rfl rfl rfl (List.mem_of_getElem? (i := 49) rfl) ?_
  refine mi_wp_p (pc' := 85) (st' := [.int (Int32.ofInt (mi_sF σf 43 10)), .ref 9]) rfl rfl rfl ?_
  refine ty_s_ci rfl rfl rfl rfl rfl rfl (mi_cal_v2 (np := 1) (args := [.ref 9, .int (Int32.ofInt (mi_sF σf 43 10))]) (rest := []) rfl rfl rfl rfl rfl (Nat.le_of_ble_eq_true rfl) rfl rfl (Nat.le_of_ble_eq_true rfl) (ty_rcS S (List.mem_of_getElem? (i := 5) rfl))) (Nat.le_of_ble_eq_true rfl) S (by rw [g11]; exact H2) ?_
  intro x hh σ2 S f P
  obtain ⟨⟨p0, p1⟩, H3⟩ := P
  replace fr := mi_Fm_tr fr f
  refine mi_s_k (pc' := 90) (e := 120) rfl rfl rfl (by decide +kernel) ?_
  refine mi_s_if2 (t := 101) rfl rfl rfl (by unfold mi_R; omega) (by unfold mi_R; omega) (fun _ => ?_) (fun hc_ => absurd (show x ≤ 120 by omega) hc_)
  refine mi_wp_p (pc' := 102) (st' := [.ref 43]) rfl rfl rfl ?_
  refine ty_s_gr S rfl rfl rfl (List.mem_of_getElem? (i := 49) rfl) ?_
  refine ty_s_cv rfl rfl rfl rfl rfl rfl (mi_cal_v2 (np := 0) (args := [.ref 9]) (rest := []) rfl rfl rfl rfl rfl (Nat.le_of_ble_eq_true rfl) rfl rfl (Nat.le_of_ble_eq_true rfl) (ty_rcS S (List.mem_of_getElem? (i := 5) rfl))) (Nat.le_of_ble_eq_true rfl) S ty_begin ?_
  intro hh σb S f P
  subst P
  replace fr := mi_Fm_tr fr f
  refine mi_wp_p (pc' := 109) (st' := [.ref 43]) rfl rfl rfl ?_
  refine ty_s_gr S rfl rfl rfl (List.mem_of_getElem? (i := 49) rfl) ?_
  refine mi_wp_p (pc' := 114) (st' := [.int (Int32.ofInt (mi_sF σf 43 10)), .ref 9]) rfl rfl rfl ?_
  refine ty_s_cv rfl rfl rfl rfl rfl rfl (mi_cal_v2 (np := 1) (args := [.ref 9, .int (Int32.ofInt (mi_sF σf 43 10))]) (rest := []) rfl rfl rfl rfl rfl (Nat.le_of_ble_eq_true rfl) rfl rfl (Nat.le_of_ble_eq_true rfl) (ty_rcS S (List.mem_of_getElem? (i := 5) rfl))) (Nat.le_of_ble_eq_true rfl) S (by rw [g11]; exact H3) ?_
  intro hh σ3 S f P
  obtain ⟨⟨c0, c1⟩, hR⟩ := P
  replace fr := mi_Fm_tr fr f
  refine mi_wp_p (pc' := 118) (st' := [.ref 43]) rfl rfl rfl ?_
  refine ty_s_gr S rfl rfl rfl (List.mem_of_getElem? (i := 50) rfl) ?_
  refine mi_wp_p (pc' := 122) (st' := [.ref 43, .ref 17]) rfl rfl rfl ?_
  refine ty_s_gj (x := mi_sB σ3 43 8) S rfl rfl rfl (List.mem_of_getElem? (i := 0) rfl) rfl ?_
  refine mi_wp_p (pc' := 127) (st' := [.int (Int32.ofInt (mi_sF σf 43 10)), .long (mi_sB σ3 43 8), .ref 17]) rfl rfl rfl ?_
  refine ty_s_cv rfl rfl rfl rfl rfl rfl (mi_cal_v2 (np := 2) (args := [.ref 17, .long (mi_sB σ3 43 8), .int (Int32.ofInt (mi_sF σf 43 10))]) (rest := []) rfl rfl rfl rfl rfl (Nat.le_of_ble_eq_true rfl) rfl rfl (Nat.le_of_ble_eq_true rfl) (ty_rcS S (List.mem_of_getElem? (i := 10) rfl))) (Nat.le_of_ble_eq_true rfl) S (kn_addDefinition c0 c1) ?_
  intro hh σ4 S f P
  subst P
  replace fr := mi_Fm_tr fr f
  refine mi_wp_p (pc' := 131) (st' := [.ref 43]) rfl rfl rfl ?_
  refine ty_s_cv rfl rfl rfl rfl rfl rfl (mi_cal_v2 (np := 0) (args := [.ref 43]) (rest := []) rfl rfl rfl rfl rfl (Nat.le_of_ble_eq_true rfl) rfl rfl (Nat.le_of_ble_eq_true rfl) (ty_rcS S (List.mem_of_getElem? (i := 19) rfl))) (Nat.le_of_ble_eq_true rfl) S ck_leave ?_
  intro hh σl S f P
  subst P
  replace fr := mi_Fm_tr fr f
  exact ty_s_ret S fr rfl rfl rfl rfl ⟨rfl, (by rw [g11]; exact hR)⟩
theorem ck_bindLet {X : mi_X} {σ : mi_Sg} {d : Nat} {st nm : Int} {R : mi_Sg → Prop} (hs : mi_sF σ 43 6 = 26) (h0 : 0 ≤ st) (h1 : st < mi_sF σ 26 7) (h2 : mi_sF σ 26 7 ≤ 1024) (H : ty_Ci X (d + 3) mi_M143 [(0, .ref 9), (1, .int (Int32.ofInt (mi_sA σ 33 st)))] σ (fun y σ1 => (0 ≤ y ∧ y ≤ 120) ∧ mi_sF σ1 44 3 = 0 ∧ ty_Ci X (d + 3) mi_M130 [(0, .ref 9), (1, .int (Int32.ofInt (mi_sF σ1 43 9)))] (mi_uF (mi_uF σ1 9 11 (mi_sF σ1 9 11 + 1)) 9 10 0) (fun _ σ2 => ty_Cv X (d + 3) mi_M138 [(0, .ref 9), (1, .int (Int32.ofInt (mi_sA σ 33 st)))] σ2 (fun σ3 => (0 ≤ nm ∧ nm < mi_sF σ3 3 7 ∧ mi_sF σ3 3 7 ≤ 301 ∧ 0 ≤ mi_sF σ3 44 3 ∧ mi_sF σ3 44 3 < 300) ∧ R (mi_uF (mi_uA (mi_uA (mi_uE σ3 45 (mi_sF σ3 44 3) (mi_sE σ3 8 nm)) 46 (mi_sF σ3 44 3) (mi_sA σ 33 st)) 47 (mi_sF σ3 44 3) 1) 44 3 (mi_sF σ3 44 3 + 1)))))) : ty_Cv X (d + 4) mi_M18 [(0, .ref 43), (1, .int (Int32.ofInt st)), (2, .int (Int32.ofInt nm))] σ (fun σ' => R σ') := by
  intro h S
  have fr := mi_Fm_rf h
  refine mi_wp_p (pc' := 1) (st' := [.ref 43]) rfl rfl rfl ?_
  refine ty_s_gv (q := 26) S rfl rfl rfl (List.mem_of_getElem? (i := 1) rfl) hs ?_
  refine mi_wp_p (pc' := 5) (st' := [.int (Int32.ofInt st), .ref 26]) rfl rfl rfl ?_
  refine ty_s_ci rfl rfl rfl rfl rfl rfl (mi_cal_v2 (np := 1) (args := [.ref 26, .int (Int32.ofInt st)]) (rest := []) rfl rfl rfl rfl rfl (Nat.le_of_ble_eq_true rfl) rfl rfl (Nat.le_of_ble_eq_true rfl) (ty_rcS S (List.mem_of_getElem? (i := 16) rfl))) (Nat.le_of_ble_eq_true rfl) S (st26_typeOf h0 h1 h2) ?_
  intro x hh σu S f P
  obtain ⟨e1, e2⟩ := P
  rw [e2] at S
  rw [e1]
  clear e1 e2
  replace fr := mi_Fm_tr fr f
  refine mi_wp_p (pc' := 9) (l' := [(3, .int (Int32.ofInt (mi_sA σ 33 st))), (0, .ref 43), (1, .int (Int32.ofInt st)), (2, .int (Int32.ofInt nm))]) (st' := []) rfl rfl rfl ?_
  refine mi_wp_p (pc' := 10) (st' := [.ref 43]) rfl rfl rfl ?_
  refine ty_s_gr S rfl rfl rfl (List.mem_of_getElem? (i := 49) rfl) ?_
  refine mi_wp_p (pc' := 14) (st' := [.int (Int32.ofInt (mi_sA σ 33 st)), .ref 9]) rfl rfl rfl ?_
  refine ty_s_ci rfl rfl rfl rfl rfl rfl (mi_cal_v2 (np := 1) (args := [.ref 9, .int (Int32.ofInt (mi_sA σ 33 st))]) (rest := []) rfl rfl rfl rfl rfl (Nat.le_of_ble_eq_true rfl) rfl rfl (Nat.le_of_ble_eq_true rfl) (ty_rcS S (List.mem_of_getElem? (i := 5) rfl))) (Nat.le_of_ble_eq_true rfl) S H ?_
  intro x hh σ1 S f P
  obtain ⟨⟨p0, p1⟩, z, H2⟩ := P
  replace fr := mi_Fm_tr fr f
  refine mi_s_k (pc' := 19) (e := 120) rfl rfl rfl (by decide +kernel) ?_
  refine mi_s_if2 (t := 30) rfl rfl rfl (by unfold mi_R; omega) (by unfold mi_R; omega) (fun _ => ?_) (fun hc_ => absurd (show x ≤ 120 by omega) hc_)
  refine mi_wp_p (pc' := 31) (st' := [.ref 43]) rfl rfl rfl ?_
  refine ty_s_gr S rfl rfl rfl (List.mem_of_getElem? (i := 49) rfl) ?_
  refine ty_s_cv rfl rfl rfl rfl rfl rfl (mi_cal_v2 (np := 0) (args := [.ref 9]) (rest := []) rfl rfl rfl rfl rfl (Nat.le_of_ble_eq_true rfl) rfl rfl (Nat.le_of_ble_eq_true rfl) (ty_rcS S (List.mem_of_getElem? (i := 5) rfl))) (Nat.le_of_ble_eq_true rfl) S ty_begin ?_
  intro hh σb S f P
  subst P
  replace fr := mi_Fm_tr fr f
  refine mi_wp_p (pc' := 38) (st' := [.ref 43]) rfl rfl rfl ?_
  refine ty_s_gr S rfl rfl rfl (List.mem_of_getElem? (i := 53) rfl) ?_
  refine mi_wp_p (pc' := 42) (st' := [.ref 43, .ref 44]) rfl rfl rfl ?_
  refine ty_s_gr S rfl rfl rfl (List.mem_of_getElem? (i := 49) rfl) ?_
  refine ty_s_cv rfl rfl rfl rfl rfl rfl (mi_cal_v2 (np := 1) (args := [.ref 44, .ref 9]) (rest := []) rfl rfl rfl rfl rfl (Nat.le_of_ble_eq_true rfl) rfl rfl (Nat.le_of_ble_eq_true rfl) (ty_rcS S (List.mem_of_getElem? (i := 23) rfl))) (Nat.le_of_ble_eq_true rfl) S (sc_gatherFixed0 (d := 0) z) ?_
  intro hh σu S f P
  rw [P] at S
  clear P
  replace fr := mi_Fm_tr fr f
  refine mi_wp_p (pc' := 49) (st' := [.ref 43]) rfl rfl rfl ?_
  refine ty_s_gr S rfl rfl rfl (List.mem_of_getElem? (i := 49) rfl) ?_
  refine mi_wp_p (pc' := 53) (st' := [.ref 43, .ref 9]) rfl rfl rfl ?_
  refine ty_s_gf (x := mi_sF (mi_uF (mi_uF σ1 9 11 (mi_sF σ1 9 11 + 1)) 9 10 0) 43 9) S rfl rfl rfl (List.mem_of_getElem? (i := 20) rfl) rfl ?_
  refine ty_s_ci rfl rfl rfl rfl rfl rfl (mi_cal_v2 (np := 1) (args := [.ref 9, .int (Int32.ofInt (mi_sF (mi_uF (mi_uF σ1 9 11 (mi_sF σ1 9 11 + 1)) 9 10 0) 43 9))]) (rest := []) rfl rfl rfl rfl rfl (Nat.le_of_ble_eq_true rfl) rfl rfl (Nat.le_of_ble_eq_true rfl) (ty_rcS S (List.mem_of_getElem? (i := 5) rfl))) (Nat.le_of_ble_eq_true rfl) S H2 ?_
  intro x2 hh σ2 S f H3
  replace fr := mi_Fm_tr fr f
  refine mi_wp_p (pc' := 60) (st' := []) rfl rfl rfl ?_
  refine mi_wp_p (pc' := 61) (st' := [.ref 43]) rfl rfl rfl ?_
  refine ty_s_gr S rfl rfl rfl (List.mem_of_getElem? (i := 49) rfl) ?_
  refine mi_wp_p (pc' := 65) (st' := [.int (Int32.ofInt (mi_sA σ 33 st)), .ref 9]) rfl rfl rfl ?_
  refine ty_s_cv rfl rfl rfl rfl rfl rfl (mi_cal_v2 (np := 1) (args := [.ref 9, .int (Int32.ofInt (mi_sA σ 33 st))]) (rest := []) rfl rfl rfl rfl rfl (Nat.le_of_ble_eq_true rfl) rfl rfl (Nat.le_of_ble_eq_true rfl) (ty_rcS S (List.mem_of_getElem? (i := 5) rfl))) (Nat.le_of_ble_eq_true rfl) S H3 ?_
  intro hh σ3 S f P
  obtain ⟨⟨c0, c1, c2, c3, c4⟩, hR⟩ := P
  replace fr := mi_Fm_tr fr f
  refine mi_wp_p (pc' := 69) (st' := [.ref 43]) rfl rfl rfl ?_
  refine ty_s_gr S rfl rfl rfl (List.mem_of_getElem? (i := 53) rfl) ?_
  refine mi_wp_p (pc' := 73) (st' := [.ref 43, .ref 44]) rfl rfl rfl ?_
  refine ty_s_gr S rfl rfl rfl (List.mem_of_getElem? (i := 48) rfl) ?_
  refine mi_wp_p (pc' := 77) (st' := [.int (Int32.ofInt nm), .ref 3, .ref 44]) rfl rfl rfl ?_
  refine ty_s_cj rfl rfl rfl rfl rfl rfl (mi_cal_v2 (np := 1) (args := [.ref 3, .int (Int32.ofInt nm)]) (rest := [.ref 44]) rfl rfl rfl rfl rfl (Nat.le_of_ble_eq_true rfl) rfl rfl (Nat.le_of_ble_eq_true rfl) (ty_rcS S (List.mem_of_getElem? (i := 3) rfl))) (Nat.le_of_ble_eq_true rfl) S (to_keyOf c0 c1 c2) ?_
  intro x hh σu S f P
  obtain ⟨e1, e2⟩ := P
  rw [e2] at S
  rw [e1]
  clear e1 e2
  replace fr := mi_Fm_tr fr f
  refine mi_wp_p (pc' := 81) (st' := [.int (Int32.ofInt (mi_sA σ 33 st)), .long (mi_sE σ3 8 nm), .ref 44]) rfl rfl rfl ?_
  refine mi_wp_p (pc' := 82) (st' := [.int (Int32.ofInt 1), .int (Int32.ofInt (mi_sA σ 33 st)), .long (mi_sE σ3 8 nm), .ref 44]) rfl rfl rfl ?_
  refine ty_s_cv rfl rfl rfl rfl rfl rfl (mi_cal_v2 (np := 3) (args := [.ref 44, .long (mi_sE σ3 8 nm), .int (Int32.ofInt (mi_sA σ 33 st)), .int (Int32.ofInt 1)]) (rest := []) rfl rfl rfl rfl rfl (Nat.le_of_ble_eq_true rfl) rfl rfl (Nat.le_of_ble_eq_true rfl) (ty_rcS S (List.mem_of_getElem? (i := 23) rfl))) (Nat.le_of_ble_eq_true rfl) S (sc_bind c3 c4 (Or.inr rfl)) ?_
  intro hh σ4 S f P
  subst P
  replace fr := mi_Fm_tr fr f
  exact ty_s_ret S fr rfl rfl rfl rfl ⟨rfl, hR⟩
