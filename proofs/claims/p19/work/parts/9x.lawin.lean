/-! ===== the law's inner loop (printed by wip/gen/p_law10.py) ===== -/
theorem cov_both {ta tb : tr} (h : inst ta tb) (g : inst tb ta) (wa : wt ta) : txt tb = txt ta := (txt_ren wa (REN_of h g)).1
theorem cov_no {ta tb : tr} {z : Int} (zc : (z = 1 ∧ inst tb ta) ∨ (z = 0 ∧ ¬ inst tb ta)) (h : inst ta tb) (wa : wt ta) (ne : txt tb ≠ txt ta) : z = 0 := zc.elim (fun q => (ne (cov_both h q.2 wa)).elim) (fun q => q.1)
theorem cov_yes {ta tb : tr} {z : Int} (zc : (z = 1 ∧ inst tb ta) ∨ (z = 0 ∧ ¬ inst tb ta)) (h : inst ta tb) (wa : wt ta) (wb : wt tb) (e : txt tb = txt ta) : z = 1 := zc.elim (fun q => q.1) (fun q => (q.2 (REN_i (REN_sym (txt_conv wa wb h e.symm)))).elim)
theorem IV_mono {σ : mi_Sg} {ds : List (Int64 × tr)} {r r' : Int} (I : IV σ ds r) (h : r ≤ r') : IV σ ds r' := ⟨I.1, I.2.1, I.2.2.1, I.2.2.2.1, by have := I.2.2.2.2; omega⟩
section LW
variable {X : mi_X} {h : mi_H} {σ : mi_Sg} {ds : List (Int64 × tr)}
set_option maxRecDepth 100000 in
theorem in_tail {rw nx nm a b tx : Nat} {ta tb : tr} {bs : List Int} {r : Int} {c s : Nat} {Q : mi_Z → Prop} {x9 : Int} {σm : mi_Sg} (S : ty_H h σ) (I : IV σ ds r) (U : US σ) (hr : r ≤ 99000000) (hd : ds.length ≤ 24) (ha : ds[a]? = some (tokY (a + 1), ta)) (hb : ds[b]? = some (tokY (b + 1), tb)) (ha6 : a < 6) (hb6 : b < 6) (da : DT ta) (db : DT tb) (A_tx : LB h tx (txt ta)) (b55_tx : 55 ≤ tx) (A_rw : LT h rw 1200 bs) (b55_rw : 55 ≤ rw) (m1 : MEQ ta tb x9 σm)
    (kk : ∀ h' σ', ty_H h' σ' → IV σ' ds (r + 3) → US σ' → LB h' tx (txt ta) → LT h' rw 1200 bs → mi_wp X 82 mi_ML 343 [(8, .int (Int32.ofInt ((b : Int) + 1))), (9, .int (Int32.ofInt x9)), (7, .ref nm), (6, .ref tx), (5, .int (Int32.ofInt ((txt ta).length : Int))), (4, .int (Int32.ofInt (a : Int))), (3, .ref nx), (2, .ref rw), (1, .ref 0), (0, .retAddr 3)] [] h' c s Q) : mi_wp X 82 mi_ML 422 [(9, .int (Int32.ofInt x9)), (8, .int (Int32.ofInt (b : Int))), (7, .ref nm), (6, .ref tx), (5, .int (Int32.ofInt ((txt ta).length : Int))), (4, .int (Int32.ofInt (a : Int))), (3, .ref nx), (2, .ref rw), (1, .ref 0), (0, .retAddr 3)] [] h c s Q := by
  obtain ⟨hwa, hwla, hpza, hnva⟩ := da
  obtain ⟨hwb, hwlb, hpzb, hnvb⟩ := db
  have hlena := txt_wl ta
  have hlenb := txt_wl tb
  have htba := txt_b hwa (by omega)
  have htbb := txt_b hwb (by omega)
  have hx9 := MEQ_R m1
  unfold mi_R at hx9
  refine mi_wp_p (pc' := 423) (st' := [.ref 0]) rfl rfl rfl ?_
  refine mi_wp_p (pc' := 425) (st' := [.int (Int32.ofInt (a : Int)), .ref 0]) rfl rfl rfl ?_
  refine mi_wp_p (pc' := 427) (st' := [.int (Int32.ofInt (b : Int)), .int (Int32.ofInt (a : Int)), .ref 0]) rfl rfl rfl ?_
  refine ls_ti rfl rfl rfl rfl rfl rfl (mi_cal_v2 (np := 2) (args := [.ref 0, .int (Int32.ofInt (a : Int)), .int (Int32.ofInt (b : Int))]) (rest := []) rfl rfl rfl rfl rfl (Nat.le_of_ble_eq_true rfl) rfl rfl (Nat.le_of_ble_eq_true rfl) (ty_rcS S (List.mem_of_getElem? (i := 0) rfl))) (Nat.le_of_ble_eq_true rfl) S (iv_covers (d := 1) I (by omega) hd ha hb (by omega)) ?_
  intro z1 hh1 σ1 S f P
  obtain ⟨zc1, QQ, -⟩ := P
  replace I := QQ.1
  replace U := QQ.2 U
  clear QQ
  have zb1 : z1 = 0 ∨ z1 = 1 := zc1.elim (fun q => Or.inr q.1) (fun q => Or.inl q.1)
  replace A_rw := LT_M A_rw f b55_rw
  replace A_tx := LB_M A_tx f b55_tx
  refine mi_s_if1 (t := 440) rfl rfl rfl (by unfold mi_R; omega) ?_ ?_
  · intro (c1 : z1 = 0)
    refine mi_s_inc (l' := [(8, .int (Int32.ofInt ((b : Int) + 1))), (9, .int (Int32.ofInt x9)), (7, .ref nm), (6, .ref tx), (5, .int (Int32.ofInt ((txt ta).length : Int))), (4, .int (Int32.ofInt (a : Int))), (3, .ref nx), (2, .ref rw), (1, .ref 0), (0, .retAddr 3)]) rfl rfl rfl (by decide) rfl ?_
    refine mi_wp_p (pc' := 343) rfl rfl rfl ?_
    exact kk _ _ S (IV_mono I (by omega)) U A_tx A_rw
  · intro (c1 : ¬ (z1 = 0))
    refine mi_wp_p (pc' := 435) (st' := [.int (Int32.ofInt x9)]) rfl rfl rfl ?_
    have hx0 : x9 ≠ 0 := MEQ_0 m1 (zc1.elim (fun q => q.2) (fun q => absurd q.1 (by omega)))
    refine mi_s_if1 (t := 440) rfl rfl rfl (by unfold mi_R; omega) (fun _ => ?_) (fun hc_ => absurd (show x9 ≠ 0 by omega) hc_)
    refine mi_s_inc (l' := [(8, .int (Int32.ofInt ((b : Int) + 1))), (9, .int (Int32.ofInt x9)), (7, .ref nm), (6, .ref tx), (5, .int (Int32.ofInt ((txt ta).length : Int))), (4, .int (Int32.ofInt (a : Int))), (3, .ref nx), (2, .ref rw), (1, .ref 0), (0, .retAddr 3)]) rfl rfl rfl (by decide) rfl ?_
    refine mi_wp_p (pc' := 343) rfl rfl rfl ?_
    exact kk _ _ S (IV_mono I (by omega)) U A_tx A_rw
set_option maxRecDepth 100000 in
set_option maxHeartbeats 1000000 in
theorem in_headA {rw nx nm a b tx : Nat} {ta tb : tr} {bs : List Int} {r : Int} {c s : Nat} {Q : mi_Z → Prop} (S : ty_H h σ) (I : IV σ ds r) (U : US σ) (hr : r ≤ 99000000) (hd : ds.length ≤ 24) (ha : ds[a]? = some (tokY (a + 1), ta)) (hb : ds[b]? = some (tokY (b + 1), tb)) (ha6 : a < 6) (hb6 : b < 6) (da : DT ta) (db : DT tb) (A_tx : LB h tx (txt ta)) (b55_tx : 55 ≤ tx) (A_rw : LT h rw 1200 bs) (b55_rw : 55 ≤ rw)
    (kk : ∀ h' σ' σm x9 c' s', ty_H h' σ' → IV σ' ds (r + 20) → US σ' → LB h' tx (txt ta) → LT h' rw 1200 bs → MEQ ta tb x9 σm → c' ≤ c + 2 → s' ≤ s + 12 → mi_wp X 82 mi_ML 422 [(9, .int (Int32.ofInt x9)), (8, .int (Int32.ofInt (b : Int))), (7, .ref nm), (6, .ref tx), (5, .int (Int32.ofInt ((txt ta).length : Int))), (4, .int (Int32.ofInt (a : Int))), (3, .ref nx), (2, .ref rw), (1, .ref 0), (0, .retAddr 3)] [] h' c' s' Q) : mi_wp X 82 mi_ML 343 [(8, .int (Int32.ofInt (b : Int))), (7, .ref nm), (6, .ref tx), (5, .int (Int32.ofInt ((txt ta).length : Int))), (4, .int (Int32.ofInt (a : Int))), (3, .ref nx), (2, .ref rw), (1, .ref 0), (0, .retAddr 3)] [] h c s Q := by
  obtain ⟨hwa, hwla, hpza, hnva⟩ := da
  obtain ⟨hwb, hwlb, hpzb, hnvb⟩ := db
  have hlena := txt_wl ta
  have hlenb := txt_wl tb
  have htba := txt_b hwa (by omega)
  have htbb := txt_b hwb (by omega)
  refine mi_wp_p (pc' := 345) (st' := [.int (Int32.ofInt (b : Int))]) rfl rfl rfl ?_
  refine mi_s_k (pc' := 347) (e := 6) rfl rfl rfl (by decide +kernel) ?_
  refine mi_s_if2 (t := 446) rfl rfl rfl (by unfold mi_R; omega) (by unfold mi_R; omega) (fun hc_ => absurd (show 6 ≤ (b : Int) from hc_) (by omega)) (fun _ => ?_)
  refine mi_wp_p (pc' := 351) (st' := [.ref 0]) rfl rfl rfl ?_
  refine mi_wp_p (pc' := 353) (st' := [.int (Int32.ofInt (a : Int)), .ref 0]) rfl rfl rfl ?_
  refine mi_wp_p (pc' := 355) (st' := [.int (Int32.ofInt (b : Int)), .int (Int32.ofInt (a : Int)), .ref 0]) rfl rfl rfl ?_
  refine ls_ci rfl rfl rfl rfl rfl rfl (mi_cal_s2 (np := 3) (args := [.ref 0, .int (Int32.ofInt (a : Int)), .int (Int32.ofInt (b : Int))]) (rest := []) rfl rfl rfl (Or.inr rfl) rfl (Nat.le_of_ble_eq_true rfl) rfl rfl (Nat.le_of_ble_eq_true rfl)) (Nat.le_of_ble_eq_true rfl) (lw_meet (d := 0) S I (by omega) hd ha hb (by omega) (by omega)) ?_
  intro x9 hh2 c2_ s2_ hc2_ hs2_ P
  obtain ⟨σ2, S1, f, m1, QQ⟩ := P
  replace A_rw := LT_M A_rw f b55_rw
  replace A_tx := LB_M A_tx f b55_tx
  clear S
  have S := S1
  clear S1
  replace I := QQ.1
  replace U := QQ.2 U
  clear QQ
  have hx9 := MEQ_R m1
  unfold mi_R at hx9
  refine mi_wp_p (pc' := 360) (l' := [(9, .int (Int32.ofInt x9)), (8, .int (Int32.ofInt (b : Int))), (7, .ref nm), (6, .ref tx), (5, .int (Int32.ofInt ((txt ta).length : Int))), (4, .int (Int32.ofInt (a : Int))), (3, .ref nx), (2, .ref rw), (1, .ref 0), (0, .retAddr 3)]) (st' := []) rfl rfl rfl ?_
  refine mi_wp_p (pc' := 362) (st' := [.int (Int32.ofInt x9)]) rfl rfl rfl ?_
  refine mi_wp_p (pc' := 363) (st' := [.ref 0, .int (Int32.ofInt x9)]) rfl rfl rfl ?_
  refine mi_wp_p (pc' := 365) (st' := [.int (Int32.ofInt (b : Int)), .ref 0, .int (Int32.ofInt x9)]) rfl rfl rfl ?_
  refine mi_wp_p (pc' := 367) (st' := [.int (Int32.ofInt (a : Int)), .int (Int32.ofInt (b : Int)), .ref 0, .int (Int32.ofInt x9)]) rfl rfl rfl ?_
  refine ls_ci rfl rfl rfl rfl rfl rfl (mi_cal_s2 (np := 3) (args := [.ref 0, .int (Int32.ofInt (b : Int)), .int (Int32.ofInt (a : Int))]) (rest := [.int (Int32.ofInt x9)]) rfl rfl rfl (Or.inr rfl) rfl (Nat.le_of_ble_eq_true rfl) rfl rfl (Nat.le_of_ble_eq_true rfl)) (Nat.le_of_ble_eq_true rfl) (lw_meet (d := 0) S I (by omega) hd hb ha (by omega) (by omega)) ?_
  intro y9 hh3 c3_ s3_ hc3_ hs3_ P
  obtain ⟨σ3, S1, f, m2, QQ⟩ := P
  replace A_rw := LT_M A_rw f b55_rw
  replace A_tx := LB_M A_tx f b55_tx
  clear S
  have S := S1
  clear S1
  replace I := QQ.1
  replace U := QQ.2 U
  clear QQ
  have e9 := MEQ_sym m1 m2
  refine mi_s_if2 (t := 420) rfl rfl rfl (by unfold mi_R; omega) (by unfold mi_R; omega) (fun hc_ => absurd (show x9 ≠ y9 from hc_) (by omega)) (fun _ => ?_)
  refine mi_wp_p (pc' := 374) (st' := [.ref 0]) rfl rfl rfl ?_
  refine mi_wp_p (pc' := 376) (st' := [.int (Int32.ofInt (a : Int)), .ref 0]) rfl rfl rfl ?_
  refine mi_wp_p (pc' := 378) (st' := [.int (Int32.ofInt (b : Int)), .int (Int32.ofInt (a : Int)), .ref 0]) rfl rfl rfl ?_
  refine ls_ti rfl rfl rfl rfl rfl rfl (mi_cal_v2 (np := 2) (args := [.ref 0, .int (Int32.ofInt (a : Int)), .int (Int32.ofInt (b : Int))]) (rest := []) rfl rfl rfl rfl rfl (Nat.le_of_ble_eq_true rfl) rfl rfl (Nat.le_of_ble_eq_true rfl) (ty_rcS S (List.mem_of_getElem? (i := 0) rfl))) (Nat.le_of_ble_eq_true rfl) S (iv_covers (d := 1) I (by omega) hd ha hb (by omega)) ?_
  intro z1 hh4 σ4 S f P
  obtain ⟨zc1, QQ, -⟩ := P
  replace I := QQ.1
  replace U := QQ.2 U
  clear QQ
  have zb1 : z1 = 0 ∨ z1 = 1 := zc1.elim (fun q => Or.inr q.1) (fun q => Or.inl q.1)
  replace A_rw := LT_M A_rw f b55_rw
  replace A_tx := LB_M A_tx f b55_tx
  refine mi_s_if1 (t := 422) rfl rfl rfl (by unfold mi_R; omega) ?_ ?_
  · intro (c2 : z1 = 0)
    exact kk _ _ _ x9 _ _ S (IV_mono I (by omega)) U A_tx A_rw m1 (by omega) (by omega)
  · intro (c2 : ¬ (z1 = 0))
    refine mi_wp_p (pc' := 385) (st' := [.ref 0]) rfl rfl rfl ?_
    refine mi_wp_p (pc' := 387) (st' := [.int (Int32.ofInt (b : Int)), .ref 0]) rfl rfl rfl ?_
    refine mi_wp_p (pc' := 389) (st' := [.int (Int32.ofInt (a : Int)), .int (Int32.ofInt (b : Int)), .ref 0]) rfl rfl rfl ?_
    refine ls_ti rfl rfl rfl rfl rfl rfl (mi_cal_v2 (np := 2) (args := [.ref 0, .int (Int32.ofInt (b : Int)), .int (Int32.ofInt (a : Int))]) (rest := []) rfl rfl rfl rfl rfl (Nat.le_of_ble_eq_true rfl) rfl rfl (Nat.le_of_ble_eq_true rfl) (ty_rcS S (List.mem_of_getElem? (i := 0) rfl))) (Nat.le_of_ble_eq_true rfl) S (iv_covers (d := 1) I (by omega) hd hb ha (by omega)) ?_
    intro z2 hh5 σ5 S f P
    obtain ⟨zc2, QQ, -⟩ := P
    replace I := QQ.1
    replace U := QQ.2 U
    clear QQ
    have zb2 : z2 = 0 ∨ z2 = 1 := zc2.elim (fun q => Or.inr q.1) (fun q => Or.inl q.1)
    replace A_rw := LT_M A_rw f b55_rw
    replace A_tx := LB_M A_tx f b55_tx
    refine mi_wp_p (pc' := 393) (st' := [.ref 0, .int (Int32.ofInt z2)]) rfl rfl rfl ?_
    refine mi_wp_p (pc' := 395) (st' := [.int (Int32.ofInt (b : Int)), .ref 0, .int (Int32.ofInt z2)]) rfl rfl rfl ?_
    refine ls_ti rfl rfl rfl rfl rfl rfl (mi_cal_v2 (np := 1) (args := [.ref 0, .int (Int32.ofInt (b : Int))]) (rest := [.int (Int32.ofInt z2)]) rfl rfl rfl rfl rfl (Nat.le_of_ble_eq_true rfl) rfl rfl (Nat.le_of_ble_eq_true rfl) (ty_rcS S (List.mem_of_getElem? (i := 0) rfl))) (Nat.le_of_ble_eq_true rfl) S (iv_write (d := 1) I (by omega) hd hb hwlb (by omega)) ?_
    intro x hh6 σ6 S f P
    obtain ⟨P, QQ, PP⟩ := P
    replace I := QQ.1
    replace U := QQ.2 U
    clear QQ
    replace A_rw := LT_M A_rw f b55_rw
    replace A_tx := LB_M A_tx f b55_tx
    rw [P, ← txt_wl]
    clear P
    refine mi_wp_p (pc' := 400) (st' := [.int (Int32.ofInt ((txt ta).length : Int)), .int (Int32.ofInt ((txt tb).length : Int)), .int (Int32.ofInt z2)]) rfl rfl rfl ?_
    refine mi_s_if2 (t := 416) rfl rfl rfl (by unfold mi_R; omega) (by unfold mi_R; omega) ?_ ?_
    · intro (c3 : ((txt tb).length : Int) ≠ ((txt ta).length : Int))
      refine mi_wp_p (pc' := 417) (st' := [.int (Int32.ofInt 0), .int (Int32.ofInt z2)]) rfl rfl rfl ?_
      have hz2 : z2 = 0 := cov_no zc2 (zc1.elim (fun q => q.2) (fun q => absurd q.1 (by omega))) hwa (fun e_ => c3 (by rw [e_]))
      refine mi_s_if2 (t := 422) rfl rfl rfl (by unfold mi_R; omega) (by unfold mi_R; omega) (fun _ => ?_) (fun hc_ => absurd (show z2 = 0 by omega) hc_)
      exact kk _ _ _ x9 _ _ S (IV_mono I (by omega)) U A_tx A_rw m1 (by omega) (by omega)
    · intro (c3 : ¬ (((txt tb).length : Int) ≠ ((txt ta).length : Int)))
      refine mi_wp_p (pc' := 404) (st' := [.ref 0, .int (Int32.ofInt z2)]) rfl rfl rfl ?_
      refine mi_wp_p (pc' := 406) (st' := [.ref tx, .ref 0, .int (Int32.ofInt z2)]) rfl rfl rfl ?_
      refine ls_ci rfl rfl rfl rfl rfl rfl (mi_cal_s2 (np := 2) (args := [.ref 0, .ref tx]) (rest := [.int (Int32.ofInt z2)]) rfl rfl rfl (Or.inl rfl) rfl (Nat.le_of_ble_eq_true rfl) rfl rfl (Nat.le_of_ble_eq_true rfl)) (Nat.le_of_ble_eq_true rfl) (lw_paper (d := 78) S A_tx b55_tx PP (by omega) (by omega) htbb htba) ?_
      intro y1 hh7 c_ s_ hc_ hs_ P
      obtain rfl : c_ = 0 := by omega
      obtain rfl : s_ = 0 := by omega
      obtain ⟨yp, S, f⟩ := P
      have yb : y1 = 0 ∨ y1 = 1 := yp.elim (fun q => Or.inr q.1) (fun q => Or.inl q.1)
      replace A_rw := LT_M A_rw f b55_rw
      replace A_tx := LB_M A_tx f b55_tx
      have e_ : mi_R y1 := by unfold mi_R; omega
      clear e_
      refine mi_s_if1 (t := 416) rfl rfl rfl (by unfold mi_R; omega) ?_ ?_
      · intro (c4 : y1 = 0)
        refine mi_wp_p (pc' := 417) (st' := [.int (Int32.ofInt 0), .int (Int32.ofInt z2)]) rfl rfl rfl ?_
        have hz2 : z2 = 0 := cov_no zc2 (zc1.elim (fun q => q.2) (fun q => absurd q.1 (by omega))) hwa (yp.elim (fun q => absurd q.1 (by omega)) (fun q => q.2))
        refine mi_s_if2 (t := 422) rfl rfl rfl (by unfold mi_R; omega) (by unfold mi_R; omega) (fun _ => ?_) (fun hc_ => absurd (show z2 = 0 by omega) hc_)
        exact kk _ _ _ x9 _ _ S (IV_mono I (by omega)) U A_tx A_rw m1 (by omega) (by omega)
      · intro (c4 : ¬ (y1 = 0))
        refine mi_wp_p (pc' := 413) (st' := [.int (Int32.ofInt 1), .int (Int32.ofInt z2)]) rfl rfl rfl ?_
        refine mi_wp_p (pc' := 417) rfl rfl rfl ?_
        have hz2 : z2 = 1 := cov_yes zc2 (zc1.elim (fun q => q.2) (fun q => absurd q.1 (by omega))) hwa hwb (yp.elim (fun q => q.2) (fun q => absurd q.1 (by omega)))
        refine mi_s_if2 (t := 422) rfl rfl rfl (by unfold mi_R; omega) (by unfold mi_R; omega) (fun _ => ?_) (fun hc_ => absurd (show z2 = 1 by omega) hc_)
        exact kk _ _ _ x9 _ _ S (IV_mono I (by omega)) U A_tx A_rw m1 (by omega) (by omega)
set_option maxRecDepth 100000 in
set_option maxHeartbeats 1000000 in
theorem in_headB {rw nx nm a b tx : Nat} {ta tb : tr} {bs : List Int} {r : Int} {c s : Nat} {Q : mi_Z → Prop} {l9 : Int} (S : ty_H h σ) (I : IV σ ds r) (U : US σ) (hr : r ≤ 99000000) (hd : ds.length ≤ 24) (ha : ds[a]? = some (tokY (a + 1), ta)) (hb : ds[b]? = some (tokY (b + 1), tb)) (ha6 : a < 6) (hb6 : b < 6) (da : DT ta) (db : DT tb) (A_tx : LB h tx (txt ta)) (b55_tx : 55 ≤ tx) (A_rw : LT h rw 1200 bs) (b55_rw : 55 ≤ rw)
    (kk : ∀ h' σ' σm x9 c' s', ty_H h' σ' → IV σ' ds (r + 20) → US σ' → LB h' tx (txt ta) → LT h' rw 1200 bs → MEQ ta tb x9 σm → c' ≤ c + 2 → s' ≤ s + 12 → mi_wp X 82 mi_ML 422 [(9, .int (Int32.ofInt x9)), (8, .int (Int32.ofInt (b : Int))), (7, .ref nm), (6, .ref tx), (5, .int (Int32.ofInt ((txt ta).length : Int))), (4, .int (Int32.ofInt (a : Int))), (3, .ref nx), (2, .ref rw), (1, .ref 0), (0, .retAddr 3)] [] h' c' s' Q) : mi_wp X 82 mi_ML 343 [(8, .int (Int32.ofInt (b : Int))), (7, .ref nm), (6, .ref tx), (5, .int (Int32.ofInt ((txt ta).length : Int))), (4, .int (Int32.ofInt (a : Int))), (9, .int (Int32.ofInt l9)), (3, .ref nx), (2, .ref rw), (1, .ref 0), (0, .retAddr 3)] [] h c s Q := by
  obtain ⟨hwa, hwla, hpza, hnva⟩ := da
  obtain ⟨hwb, hwlb, hpzb, hnvb⟩ := db
  have hlena := txt_wl ta
  have hlenb := txt_wl tb
  have htba := txt_b hwa (by omega)
  have htbb := txt_b hwb (by omega)
  refine mi_wp_p (pc' := 345) (st' := [.int (Int32.ofInt (b : Int))]) rfl rfl rfl ?_
  refine mi_s_k (pc' := 347) (e := 6) rfl rfl rfl (by decide +kernel) ?_
  refine mi_s_if2 (t := 446) rfl rfl rfl (by unfold mi_R; omega) (by unfold mi_R; omega) (fun hc_ => absurd (show 6 ≤ (b : Int) from hc_) (by omega)) (fun _ => ?_)
  refine mi_wp_p (pc' := 351) (st' := [.ref 0]) rfl rfl rfl ?_
  refine mi_wp_p (pc' := 353) (st' := [.int (Int32.ofInt (a : Int)), .ref 0]) rfl rfl rfl ?_
  refine mi_wp_p (pc' := 355) (st' := [.int (Int32.ofInt (b : Int)), .int (Int32.ofInt (a : Int)), .ref 0]) rfl rfl rfl ?_
  refine ls_ci rfl rfl rfl rfl rfl rfl (mi_cal_s2 (np := 3) (args := [.ref 0, .int (Int32.ofInt (a : Int)), .int (Int32.ofInt (b : Int))]) (rest := []) rfl rfl rfl (Or.inr rfl) rfl (Nat.le_of_ble_eq_true rfl) rfl rfl (Nat.le_of_ble_eq_true rfl)) (Nat.le_of_ble_eq_true rfl) (lw_meet (d := 0) S I (by omega) hd ha hb (by omega) (by omega)) ?_
  intro x9 hh8 c8_ s8_ hc8_ hs8_ P
  obtain ⟨σ8, S1, f, m1, QQ⟩ := P
  replace A_rw := LT_M A_rw f b55_rw
  replace A_tx := LB_M A_tx f b55_tx
  clear S
  have S := S1
  clear S1
  replace I := QQ.1
  replace U := QQ.2 U
  clear QQ
  have hx9 := MEQ_R m1
  unfold mi_R at hx9
  refine mi_wp_p (pc' := 360) (l' := [(9, .int (Int32.ofInt x9)), (8, .int (Int32.ofInt (b : Int))), (7, .ref nm), (6, .ref tx), (5, .int (Int32.ofInt ((txt ta).length : Int))), (4, .int (Int32.ofInt (a : Int))), (3, .ref nx), (2, .ref rw), (1, .ref 0), (0, .retAddr 3)]) (st' := []) rfl rfl rfl ?_
  refine mi_wp_p (pc' := 362) (st' := [.int (Int32.ofInt x9)]) rfl rfl rfl ?_
  refine mi_wp_p (pc' := 363) (st' := [.ref 0, .int (Int32.ofInt x9)]) rfl rfl rfl ?_
  refine mi_wp_p (pc' := 365) (st' := [.int (Int32.ofInt (b : Int)), .ref 0, .int (Int32.ofInt x9)]) rfl rfl rfl ?_
  refine mi_wp_p (pc' := 367) (st' := [.int (Int32.ofInt (a : Int)), .int (Int32.ofInt (b : Int)), .ref 0, .int (Int32.ofInt x9)]) rfl rfl rfl ?_
  refine ls_ci rfl rfl rfl rfl rfl rfl (mi_cal_s2 (np := 3) (args := [.ref 0, .int (Int32.ofInt (b : Int)), .int (Int32.ofInt (a : Int))]) (rest := [.int (Int32.ofInt x9)]) rfl rfl rfl (Or.inr rfl) rfl (Nat.le_of_ble_eq_true rfl) rfl rfl (Nat.le_of_ble_eq_true rfl)) (Nat.le_of_ble_eq_true rfl) (lw_meet (d := 0) S I (by omega) hd hb ha (by omega) (by omega)) ?_
  intro y9 hh9 c9_ s9_ hc9_ hs9_ P
  obtain ⟨σ9, S1, f, m2, QQ⟩ := P
  replace A_rw := LT_M A_rw f b55_rw
  replace A_tx := LB_M A_tx f b55_tx
  clear S
  have S := S1
  clear S1
  replace I := QQ.1
  replace U := QQ.2 U
  clear QQ
  have e9 := MEQ_sym m1 m2
  refine mi_s_if2 (t := 420) rfl rfl rfl (by unfold mi_R; omega) (by unfold mi_R; omega) (fun hc_ => absurd (show x9 ≠ y9 from hc_) (by omega)) (fun _ => ?_)
  refine mi_wp_p (pc' := 374) (st' := [.ref 0]) rfl rfl rfl ?_
  refine mi_wp_p (pc' := 376) (st' := [.int (Int32.ofInt (a : Int)), .ref 0]) rfl rfl rfl ?_
  refine mi_wp_p (pc' := 378) (st' := [.int (Int32.ofInt (b : Int)), .int (Int32.ofInt (a : Int)), .ref 0]) rfl rfl rfl ?_
  refine ls_ti rfl rfl rfl rfl rfl rfl (mi_cal_v2 (np := 2) (args := [.ref 0, .int (Int32.ofInt (a : Int)), .int (Int32.ofInt (b : Int))]) (rest := []) rfl rfl rfl rfl rfl (Nat.le_of_ble_eq_true rfl) rfl rfl (Nat.le_of_ble_eq_true rfl) (ty_rcS S (List.mem_of_getElem? (i := 0) rfl))) (Nat.le_of_ble_eq_true rfl) S (iv_covers (d := 1) I (by omega) hd ha hb (by omega)) ?_
  intro z1 hh10 σ10 S f P
  obtain ⟨zc1, QQ, -⟩ := P
  replace I := QQ.1
  replace U := QQ.2 U
  clear QQ
  have zb1 : z1 = 0 ∨ z1 = 1 := zc1.elim (fun q => Or.inr q.1) (fun q => Or.inl q.1)
  replace A_rw := LT_M A_rw f b55_rw
  replace A_tx := LB_M A_tx f b55_tx
  refine mi_s_if1 (t := 422) rfl rfl rfl (by unfold mi_R; omega) ?_ ?_
  · intro (c5 : z1 = 0)
    exact kk _ _ _ x9 _ _ S (IV_mono I (by omega)) U A_tx A_rw m1 (by omega) (by omega)
  · intro (c5 : ¬ (z1 = 0))
    refine mi_wp_p (pc' := 385) (st' := [.ref 0]) rfl rfl rfl ?_
    refine mi_wp_p (pc' := 387) (st' := [.int (Int32.ofInt (b : Int)), .ref 0]) rfl rfl rfl ?_
    refine mi_wp_p (pc' := 389) (st' := [.int (Int32.ofInt (a : Int)), .int (Int32.ofInt (b : Int)), .ref 0]) rfl rfl rfl ?_
    refine ls_ti rfl rfl rfl rfl rfl rfl (mi_cal_v2 (np := 2) (args := [.ref 0, .int (Int32.ofInt (b : Int)), .int (Int32.ofInt (a : Int))]) (rest := []) rfl rfl rfl rfl rfl (Nat.le_of_ble_eq_true rfl) rfl rfl (Nat.le_of_ble_eq_true rfl) (ty_rcS S (List.mem_of_getElem? (i := 0) rfl))) (Nat.le_of_ble_eq_true rfl) S (iv_covers (d := 1) I (by omega) hd hb ha (by omega)) ?_
    intro z2 hh11 σ11 S f P
    obtain ⟨zc2, QQ, -⟩ := P
    replace I := QQ.1
    replace U := QQ.2 U
    clear QQ
    have zb2 : z2 = 0 ∨ z2 = 1 := zc2.elim (fun q => Or.inr q.1) (fun q => Or.inl q.1)
    replace A_rw := LT_M A_rw f b55_rw
    replace A_tx := LB_M A_tx f b55_tx
    refine mi_wp_p (pc' := 393) (st' := [.ref 0, .int (Int32.ofInt z2)]) rfl rfl rfl ?_
    refine mi_wp_p (pc' := 395) (st' := [.int (Int32.ofInt (b : Int)), .ref 0, .int (Int32.ofInt z2)]) rfl rfl rfl ?_
    refine ls_ti rfl rfl rfl rfl rfl rfl (mi_cal_v2 (np := 1) (args := [.ref 0, .int (Int32.ofInt (b : Int))]) (rest := [.int (Int32.ofInt z2)]) rfl rfl rfl rfl rfl (Nat.le_of_ble_eq_true rfl) rfl rfl (Nat.le_of_ble_eq_true rfl) (ty_rcS S (List.mem_of_getElem? (i := 0) rfl))) (Nat.le_of_ble_eq_true rfl) S (iv_write (d := 1) I (by omega) hd hb hwlb (by omega)) ?_
    intro x hh12 σ12 S f P
    obtain ⟨P, QQ, PP⟩ := P
    replace I := QQ.1
    replace U := QQ.2 U
    clear QQ
    replace A_rw := LT_M A_rw f b55_rw
    replace A_tx := LB_M A_tx f b55_tx
    rw [P, ← txt_wl]
    clear P
    refine mi_wp_p (pc' := 400) (st' := [.int (Int32.ofInt ((txt ta).length : Int)), .int (Int32.ofInt ((txt tb).length : Int)), .int (Int32.ofInt z2)]) rfl rfl rfl ?_
    refine mi_s_if2 (t := 416) rfl rfl rfl (by unfold mi_R; omega) (by unfold mi_R; omega) ?_ ?_
    · intro (c6 : ((txt tb).length : Int) ≠ ((txt ta).length : Int))
      refine mi_wp_p (pc' := 417) (st' := [.int (Int32.ofInt 0), .int (Int32.ofInt z2)]) rfl rfl rfl ?_
      have hz2 : z2 = 0 := cov_no zc2 (zc1.elim (fun q => q.2) (fun q => absurd q.1 (by omega))) hwa (fun e_ => c6 (by rw [e_]))
      refine mi_s_if2 (t := 422) rfl rfl rfl (by unfold mi_R; omega) (by unfold mi_R; omega) (fun _ => ?_) (fun hc_ => absurd (show z2 = 0 by omega) hc_)
      exact kk _ _ _ x9 _ _ S (IV_mono I (by omega)) U A_tx A_rw m1 (by omega) (by omega)
    · intro (c6 : ¬ (((txt tb).length : Int) ≠ ((txt ta).length : Int)))
      refine mi_wp_p (pc' := 404) (st' := [.ref 0, .int (Int32.ofInt z2)]) rfl rfl rfl ?_
      refine mi_wp_p (pc' := 406) (st' := [.ref tx, .ref 0, .int (Int32.ofInt z2)]) rfl rfl rfl ?_
      refine ls_ci rfl rfl rfl rfl rfl rfl (mi_cal_s2 (np := 2) (args := [.ref 0, .ref tx]) (rest := [.int (Int32.ofInt z2)]) rfl rfl rfl (Or.inl rfl) rfl (Nat.le_of_ble_eq_true rfl) rfl rfl (Nat.le_of_ble_eq_true rfl)) (Nat.le_of_ble_eq_true rfl) (lw_paper (d := 78) S A_tx b55_tx PP (by omega) (by omega) htbb htba) ?_
      intro y1 hh13 c_ s_ hc_ hs_ P
      obtain rfl : c_ = 0 := by omega
      obtain rfl : s_ = 0 := by omega
      obtain ⟨yp, S, f⟩ := P
      have yb : y1 = 0 ∨ y1 = 1 := yp.elim (fun q => Or.inr q.1) (fun q => Or.inl q.1)
      replace A_rw := LT_M A_rw f b55_rw
      replace A_tx := LB_M A_tx f b55_tx
      have e_ : mi_R y1 := by unfold mi_R; omega
      clear e_
      refine mi_s_if1 (t := 416) rfl rfl rfl (by unfold mi_R; omega) ?_ ?_
      · intro (c7 : y1 = 0)
        refine mi_wp_p (pc' := 417) (st' := [.int (Int32.ofInt 0), .int (Int32.ofInt z2)]) rfl rfl rfl ?_
        have hz2 : z2 = 0 := cov_no zc2 (zc1.elim (fun q => q.2) (fun q => absurd q.1 (by omega))) hwa (yp.elim (fun q => absurd q.1 (by omega)) (fun q => q.2))
        refine mi_s_if2 (t := 422) rfl rfl rfl (by unfold mi_R; omega) (by unfold mi_R; omega) (fun _ => ?_) (fun hc_ => absurd (show z2 = 0 by omega) hc_)
        exact kk _ _ _ x9 _ _ S (IV_mono I (by omega)) U A_tx A_rw m1 (by omega) (by omega)
      · intro (c7 : ¬ (y1 = 0))
        refine mi_wp_p (pc' := 413) (st' := [.int (Int32.ofInt 1), .int (Int32.ofInt z2)]) rfl rfl rfl ?_
        refine mi_wp_p (pc' := 417) rfl rfl rfl ?_
        have hz2 : z2 = 1 := cov_yes zc2 (zc1.elim (fun q => q.2) (fun q => absurd q.1 (by omega))) hwa hwb (yp.elim (fun q => q.2) (fun q => absurd q.1 (by omega)))
        refine mi_s_if2 (t := 422) rfl rfl rfl (by unfold mi_R; omega) (by unfold mi_R; omega) (fun _ => ?_) (fun hc_ => absurd (show z2 = 1 by omega) hc_)
        exact kk _ _ _ x9 _ _ S (IV_mono I (by omega)) U A_tx A_rw m1 (by omega) (by omega)
set_option maxRecDepth 100000 in
set_option maxHeartbeats 1000000 in
theorem in_headC {rw nx nm a b tx : Nat} {ta tb : tr} {bs : List Int} {r : Int} {c s : Nat} {Q : mi_Z → Prop} {l9 : Int} (S : ty_H h σ) (I : IV σ ds r) (U : US σ) (hr : r ≤ 99000000) (hd : ds.length ≤ 24) (ha : ds[a]? = some (tokY (a + 1), ta)) (hb : ds[b]? = some (tokY (b + 1), tb)) (ha6 : a < 6) (hb6 : b < 6) (da : DT ta) (db : DT tb) (A_tx : LB h tx (txt ta)) (b55_tx : 55 ≤ tx) (A_rw : LT h rw 1200 bs) (b55_rw : 55 ≤ rw)
    (kk : ∀ h' σ' σm x9 c' s', ty_H h' σ' → IV σ' ds (r + 20) → US σ' → LB h' tx (txt ta) → LT h' rw 1200 bs → MEQ ta tb x9 σm → c' ≤ c + 2 → s' ≤ s + 12 → mi_wp X 82 mi_ML 422 [(9, .int (Int32.ofInt x9)), (8, .int (Int32.ofInt (b : Int))), (7, .ref nm), (6, .ref tx), (5, .int (Int32.ofInt ((txt ta).length : Int))), (4, .int (Int32.ofInt (a : Int))), (3, .ref nx), (2, .ref rw), (1, .ref 0), (0, .retAddr 3)] [] h' c' s' Q) : mi_wp X 82 mi_ML 343 [(8, .int (Int32.ofInt (b : Int))), (9, .int (Int32.ofInt l9)), (7, .ref nm), (6, .ref tx), (5, .int (Int32.ofInt ((txt ta).length : Int))), (4, .int (Int32.ofInt (a : Int))), (3, .ref nx), (2, .ref rw), (1, .ref 0), (0, .retAddr 3)] [] h c s Q := by
  obtain ⟨hwa, hwla, hpza, hnva⟩ := da
  obtain ⟨hwb, hwlb, hpzb, hnvb⟩ := db
  have hlena := txt_wl ta
  have hlenb := txt_wl tb
  have htba := txt_b hwa (by omega)
  have htbb := txt_b hwb (by omega)
  refine mi_wp_p (pc' := 345) (st' := [.int (Int32.ofInt (b : Int))]) rfl rfl rfl ?_
  refine mi_s_k (pc' := 347) (e := 6) rfl rfl rfl (by decide +kernel) ?_
  refine mi_s_if2 (t := 446) rfl rfl rfl (by unfold mi_R; omega) (by unfold mi_R; omega) (fun hc_ => absurd (show 6 ≤ (b : Int) from hc_) (by omega)) (fun _ => ?_)
  refine mi_wp_p (pc' := 351) (st' := [.ref 0]) rfl rfl rfl ?_
  refine mi_wp_p (pc' := 353) (st' := [.int (Int32.ofInt (a : Int)), .ref 0]) rfl rfl rfl ?_
  refine mi_wp_p (pc' := 355) (st' := [.int (Int32.ofInt (b : Int)), .int (Int32.ofInt (a : Int)), .ref 0]) rfl rfl rfl ?_
  refine ls_ci rfl rfl rfl rfl rfl rfl (mi_cal_s2 (np := 3) (args := [.ref 0, .int (Int32.ofInt (a : Int)), .int (Int32.ofInt (b : Int))]) (rest := []) rfl rfl rfl (Or.inr rfl) rfl (Nat.le_of_ble_eq_true rfl) rfl rfl (Nat.le_of_ble_eq_true rfl)) (Nat.le_of_ble_eq_true rfl) (lw_meet (d := 0) S I (by omega) hd ha hb (by omega) (by omega)) ?_
  intro x9 hh14 c14_ s14_ hc14_ hs14_ P
  obtain ⟨σ14, S1, f, m1, QQ⟩ := P
  replace A_rw := LT_M A_rw f b55_rw
  replace A_tx := LB_M A_tx f b55_tx
  clear S
  have S := S1
  clear S1
  replace I := QQ.1
  replace U := QQ.2 U
  clear QQ
  have hx9 := MEQ_R m1
  unfold mi_R at hx9
  refine mi_wp_p (pc' := 360) (l' := [(9, .int (Int32.ofInt x9)), (8, .int (Int32.ofInt (b : Int))), (7, .ref nm), (6, .ref tx), (5, .int (Int32.ofInt ((txt ta).length : Int))), (4, .int (Int32.ofInt (a : Int))), (3, .ref nx), (2, .ref rw), (1, .ref 0), (0, .retAddr 3)]) (st' := []) rfl rfl rfl ?_
  refine mi_wp_p (pc' := 362) (st' := [.int (Int32.ofInt x9)]) rfl rfl rfl ?_
  refine mi_wp_p (pc' := 363) (st' := [.ref 0, .int (Int32.ofInt x9)]) rfl rfl rfl ?_
  refine mi_wp_p (pc' := 365) (st' := [.int (Int32.ofInt (b : Int)), .ref 0, .int (Int32.ofInt x9)]) rfl rfl rfl ?_
  refine mi_wp_p (pc' := 367) (st' := [.int (Int32.ofInt (a : Int)), .int (Int32.ofInt (b : Int)), .ref 0, .int (Int32.ofInt x9)]) rfl rfl rfl ?_
  refine ls_ci rfl rfl rfl rfl rfl rfl (mi_cal_s2 (np := 3) (args := [.ref 0, .int (Int32.ofInt (b : Int)), .int (Int32.ofInt (a : Int))]) (rest := [.int (Int32.ofInt x9)]) rfl rfl rfl (Or.inr rfl) rfl (Nat.le_of_ble_eq_true rfl) rfl rfl (Nat.le_of_ble_eq_true rfl)) (Nat.le_of_ble_eq_true rfl) (lw_meet (d := 0) S I (by omega) hd hb ha (by omega) (by omega)) ?_
  intro y9 hh15 c15_ s15_ hc15_ hs15_ P
  obtain ⟨σ15, S1, f, m2, QQ⟩ := P
  replace A_rw := LT_M A_rw f b55_rw
  replace A_tx := LB_M A_tx f b55_tx
  clear S
  have S := S1
  clear S1
  replace I := QQ.1
  replace U := QQ.2 U
  clear QQ
  have e9 := MEQ_sym m1 m2
  refine mi_s_if2 (t := 420) rfl rfl rfl (by unfold mi_R; omega) (by unfold mi_R; omega) (fun hc_ => absurd (show x9 ≠ y9 from hc_) (by omega)) (fun _ => ?_)
  refine mi_wp_p (pc' := 374) (st' := [.ref 0]) rfl rfl rfl ?_
  refine mi_wp_p (pc' := 376) (st' := [.int (Int32.ofInt (a : Int)), .ref 0]) rfl rfl rfl ?_
  refine mi_wp_p (pc' := 378) (st' := [.int (Int32.ofInt (b : Int)), .int (Int32.ofInt (a : Int)), .ref 0]) rfl rfl rfl ?_
  refine ls_ti rfl rfl rfl rfl rfl rfl (mi_cal_v2 (np := 2) (args := [.ref 0, .int (Int32.ofInt (a : Int)), .int (Int32.ofInt (b : Int))]) (rest := []) rfl rfl rfl rfl rfl (Nat.le_of_ble_eq_true rfl) rfl rfl (Nat.le_of_ble_eq_true rfl) (ty_rcS S (List.mem_of_getElem? (i := 0) rfl))) (Nat.le_of_ble_eq_true rfl) S (iv_covers (d := 1) I (by omega) hd ha hb (by omega)) ?_
  intro z1 hh16 σ16 S f P
  obtain ⟨zc1, QQ, -⟩ := P
  replace I := QQ.1
  replace U := QQ.2 U
  clear QQ
  have zb1 : z1 = 0 ∨ z1 = 1 := zc1.elim (fun q => Or.inr q.1) (fun q => Or.inl q.1)
  replace A_rw := LT_M A_rw f b55_rw
  replace A_tx := LB_M A_tx f b55_tx
  refine mi_s_if1 (t := 422) rfl rfl rfl (by unfold mi_R; omega) ?_ ?_
  · intro (c8 : z1 = 0)
    exact kk _ _ _ x9 _ _ S (IV_mono I (by omega)) U A_tx A_rw m1 (by omega) (by omega)
  · intro (c8 : ¬ (z1 = 0))
    refine mi_wp_p (pc' := 385) (st' := [.ref 0]) rfl rfl rfl ?_
    refine mi_wp_p (pc' := 387) (st' := [.int (Int32.ofInt (b : Int)), .ref 0]) rfl rfl rfl ?_
    refine mi_wp_p (pc' := 389) (st' := [.int (Int32.ofInt (a : Int)), .int (Int32.ofInt (b : Int)), .ref 0]) rfl rfl rfl ?_
    refine ls_ti rfl rfl rfl rfl rfl rfl (mi_cal_v2 (np := 2) (args := [.ref 0, .int (Int32.ofInt (b : Int)), .int (Int32.ofInt (a : Int))]) (rest := []) rfl rfl rfl rfl rfl (Nat.le_of_ble_eq_true rfl) rfl rfl (Nat.le_of_ble_eq_true rfl) (ty_rcS S (List.mem_of_getElem? (i := 0) rfl))) (Nat.le_of_ble_eq_true rfl) S (iv_covers (d := 1) I (by omega) hd hb ha (by omega)) ?_
    intro z2 hh17 σ17 S f P
    obtain ⟨zc2, QQ, -⟩ := P
    replace I := QQ.1
    replace U := QQ.2 U
    clear QQ
    have zb2 : z2 = 0 ∨ z2 = 1 := zc2.elim (fun q => Or.inr q.1) (fun q => Or.inl q.1)
    replace A_rw := LT_M A_rw f b55_rw
    replace A_tx := LB_M A_tx f b55_tx
    refine mi_wp_p (pc' := 393) (st' := [.ref 0, .int (Int32.ofInt z2)]) rfl rfl rfl ?_
    refine mi_wp_p (pc' := 395) (st' := [.int (Int32.ofInt (b : Int)), .ref 0, .int (Int32.ofInt z2)]) rfl rfl rfl ?_
    refine ls_ti rfl rfl rfl rfl rfl rfl (mi_cal_v2 (np := 1) (args := [.ref 0, .int (Int32.ofInt (b : Int))]) (rest := [.int (Int32.ofInt z2)]) rfl rfl rfl rfl rfl (Nat.le_of_ble_eq_true rfl) rfl rfl (Nat.le_of_ble_eq_true rfl) (ty_rcS S (List.mem_of_getElem? (i := 0) rfl))) (Nat.le_of_ble_eq_true rfl) S (iv_write (d := 1) I (by omega) hd hb hwlb (by omega)) ?_
    intro x hh18 σ18 S f P
    obtain ⟨P, QQ, PP⟩ := P
    replace I := QQ.1
    replace U := QQ.2 U
    clear QQ
    replace A_rw := LT_M A_rw f b55_rw
    replace A_tx := LB_M A_tx f b55_tx
    rw [P, ← txt_wl]
    clear P
    refine mi_wp_p (pc' := 400) (st' := [.int (Int32.ofInt ((txt ta).length : Int)), .int (Int32.ofInt ((txt tb).length : Int)), .int (Int32.ofInt z2)]) rfl rfl rfl ?_
    refine mi_s_if2 (t := 416) rfl rfl rfl (by unfold mi_R; omega) (by unfold mi_R; omega) ?_ ?_
    · intro (c9 : ((txt tb).length : Int) ≠ ((txt ta).length : Int))
      refine mi_wp_p (pc' := 417) (st' := [.int (Int32.ofInt 0), .int (Int32.ofInt z2)]) rfl rfl rfl ?_
      have hz2 : z2 = 0 := cov_no zc2 (zc1.elim (fun q => q.2) (fun q => absurd q.1 (by omega))) hwa (fun e_ => c9 (by rw [e_]))
      refine mi_s_if2 (t := 422) rfl rfl rfl (by unfold mi_R; omega) (by unfold mi_R; omega) (fun _ => ?_) (fun hc_ => absurd (show z2 = 0 by omega) hc_)
      exact kk _ _ _ x9 _ _ S (IV_mono I (by omega)) U A_tx A_rw m1 (by omega) (by omega)
    · intro (c9 : ¬ (((txt tb).length : Int) ≠ ((txt ta).length : Int)))
      refine mi_wp_p (pc' := 404) (st' := [.ref 0, .int (Int32.ofInt z2)]) rfl rfl rfl ?_
      refine mi_wp_p (pc' := 406) (st' := [.ref tx, .ref 0, .int (Int32.ofInt z2)]) rfl rfl rfl ?_
      refine ls_ci rfl rfl rfl rfl rfl rfl (mi_cal_s2 (np := 2) (args := [.ref 0, .ref tx]) (rest := [.int (Int32.ofInt z2)]) rfl rfl rfl (Or.inl rfl) rfl (Nat.le_of_ble_eq_true rfl) rfl rfl (Nat.le_of_ble_eq_true rfl)) (Nat.le_of_ble_eq_true rfl) (lw_paper (d := 78) S A_tx b55_tx PP (by omega) (by omega) htbb htba) ?_
      intro y1 hh19 c_ s_ hc_ hs_ P
      obtain rfl : c_ = 0 := by omega
      obtain rfl : s_ = 0 := by omega
      obtain ⟨yp, S, f⟩ := P
      have yb : y1 = 0 ∨ y1 = 1 := yp.elim (fun q => Or.inr q.1) (fun q => Or.inl q.1)
      replace A_rw := LT_M A_rw f b55_rw
      replace A_tx := LB_M A_tx f b55_tx
      have e_ : mi_R y1 := by unfold mi_R; omega
      clear e_
      refine mi_s_if1 (t := 416) rfl rfl rfl (by unfold mi_R; omega) ?_ ?_
      · intro (c10 : y1 = 0)
        refine mi_wp_p (pc' := 417) (st' := [.int (Int32.ofInt 0), .int (Int32.ofInt z2)]) rfl rfl rfl ?_
        have hz2 : z2 = 0 := cov_no zc2 (zc1.elim (fun q => q.2) (fun q => absurd q.1 (by omega))) hwa (yp.elim (fun q => absurd q.1 (by omega)) (fun q => q.2))
        refine mi_s_if2 (t := 422) rfl rfl rfl (by unfold mi_R; omega) (by unfold mi_R; omega) (fun _ => ?_) (fun hc_ => absurd (show z2 = 0 by omega) hc_)
        exact kk _ _ _ x9 _ _ S (IV_mono I (by omega)) U A_tx A_rw m1 (by omega) (by omega)
      · intro (c10 : ¬ (y1 = 0))
        refine mi_wp_p (pc' := 413) (st' := [.int (Int32.ofInt 1), .int (Int32.ofInt z2)]) rfl rfl rfl ?_
        refine mi_wp_p (pc' := 417) rfl rfl rfl ?_
        have hz2 : z2 = 1 := cov_yes zc2 (zc1.elim (fun q => q.2) (fun q => absurd q.1 (by omega))) hwa hwb (yp.elim (fun q => q.2) (fun q => absurd q.1 (by omega)))
        refine mi_s_if2 (t := 422) rfl rfl rfl (by unfold mi_R; omega) (by unfold mi_R; omega) (fun _ => ?_) (fun hc_ => absurd (show z2 = 1 by omega) hc_)
        exact kk _ _ _ x9 _ _ S (IV_mono I (by omega)) U A_tx A_rw m1 (by omega) (by omega)
set_option maxRecDepth 100000 in
theorem in_end {rw nx nm a tx : Nat} {l5 l9 : Int} {c s : Nat} {Q : mi_Z → Prop} (ha6 : a < 6) (kk : mi_wp X 82 mi_ML 163 [(4, .int (Int32.ofInt ((a : Int) + 1))), (8, .int (Int32.ofInt 6)), (9, .int (Int32.ofInt l9)), (7, .ref nm), (6, .ref tx), (5, .int (Int32.ofInt l5)), (3, .ref nx), (2, .ref rw), (1, .ref 0), (0, .retAddr 3)] [] h c s Q) : mi_wp X 82 mi_ML 343 [(8, .int (Int32.ofInt 6)), (9, .int (Int32.ofInt l9)), (7, .ref nm), (6, .ref tx), (5, .int (Int32.ofInt l5)), (4, .int (Int32.ofInt (a : Int))), (3, .ref nx), (2, .ref rw), (1, .ref 0), (0, .retAddr 3)] [] h c s Q := by
  refine mi_wp_p (pc' := 345) (st' := [.int (Int32.ofInt 6)]) rfl rfl rfl ?_
  refine mi_s_k (pc' := 347) (e := 6) rfl rfl rfl (by decide +kernel) ?_
  refine mi_s_if2 (t := 446) rfl rfl rfl (by unfold mi_R; omega) (by unfold mi_R; omega) (fun _ => ?_) (fun hc_ => absurd (show 6 ≤ (6 : Int) by omega) hc_)
  refine mi_s_inc (l' := [(4, .int (Int32.ofInt ((a : Int) + 1))), (8, .int (Int32.ofInt 6)), (9, .int (Int32.ofInt l9)), (7, .ref nm), (6, .ref tx), (5, .int (Int32.ofInt l5)), (3, .ref nx), (2, .ref rw), (1, .ref 0), (0, .retAddr 3)]) rfl rfl rfl (by decide) rfl ?_
  refine mi_wp_p (pc' := 163) rfl rfl rfl ?_
  exact kk
/-- all turns from b on -/
theorem in_loop {rw nx nm a tx : Nat} {ta : tr} {bs : List Int} {cc ss : Nat} {Q : mi_Z → Prop} (hd : ds.length ≤ 24) (hall : ∀ b, b < 6 → ∃ t, ds[b]? = some (tokY (b + 1), t) ∧ DT t) (ha : ds[a]? = some (tokY (a + 1), ta)) (ha6 : a < 6) (da : DT ta) (b55_tx : 55 ≤ tx) (b55_rw : 55 ≤ rw) (r0 : Int) (hr0 : r0 ≤ 98000000)
    (kk : ∀ h' σ' l9 c s, ty_H h' σ' → IV σ' ds (r0 + 138) → US σ' → LT h' rw 1200 bs → c ≤ cc + 12 → s ≤ ss + 72 → mi_wp X 82 mi_ML 163 [(4, .int (Int32.ofInt ((a : Int) + 1))), (8, .int (Int32.ofInt 6)), (9, .int (Int32.ofInt l9)), (7, .ref nm), (6, .ref tx), (5, .int (Int32.ofInt ((txt ta).length : Int))), (3, .ref nx), (2, .ref rw), (1, .ref 0), (0, .retAddr 3)] [] h' c s Q) : ∀ (m b : Nat), m + b = 6 → ∀ (h : mi_H) (σ : mi_Sg) (l9 : Int) (c s : Nat), ty_H h σ → IV σ ds (r0 + 23 * b) → US σ → LB h tx (txt ta) → LT h rw 1200 bs → c ≤ cc + 2 * b → s ≤ ss + 12 * b → mi_wp X 82 mi_ML 343 [(8, .int (Int32.ofInt (b : Int))), (9, .int (Int32.ofInt l9)), (7, .ref nm), (6, .ref tx), (5, .int (Int32.ofInt ((txt ta).length : Int))), (4, .int (Int32.ofInt (a : Int))), (3, .ref nx), (2, .ref rw), (1, .ref 0), (0, .retAddr 3)] [] h c s Q := by
  intro m
  induction m with
  | zero =>
    intro b hb h σ l9 c s S I U A_tx A_rw hc hs
    obtain rfl : b = 6 := by omega
    exact in_end ha6 (kk h σ l9 c s S (IV_mono I (by omega)) U A_rw (by omega) (by omega))
  | succ m ih =>
    intro b hb h σ l9 c s S I U A_tx A_rw hc hs
    obtain ⟨tb, hdb, db⟩ := hall b (by omega)
    refine in_headC S I U (by omega) hd ha hdb ha6 (by omega) da db A_tx b55_tx A_rw b55_rw (fun h1 σ1 σm x9 c1 s1 S1 I1 U1 T1 R1 m1 hc1 hs1 => ?_)
    refine in_tail S1 I1 U1 (by omega) hd ha hdb ha6 (by omega) da db T1 b55_tx R1 b55_rw m1 (fun h2 σ2 S2 I2 U2 T2 R2 => ?_)
    rw [show (b : Int) + 1 = ((b + 1 : Nat) : Int) by omega]
    exact ih (b + 1) (by omega) h2 σ2 x9 c1 s1 S2 (IV_mono I2 (by omega)) U2 T2 R2 (by omega) (by omega)
theorem in_firstA {rw nx nm a tx : Nat} {ta : tr} {bs : List Int} {c s : Nat} {Q : mi_Z → Prop} (hd : ds.length ≤ 24) (hall : ∀ b, b < 6 → ∃ t, ds[b]? = some (tokY (b + 1), t) ∧ DT t) (ha : ds[a]? = some (tokY (a + 1), ta)) (ha6 : a < 6) (da : DT ta) (b55_tx : 55 ≤ tx) (b55_rw : 55 ≤ rw) (r0 : Int) (hr0 : r0 ≤ 98000000) (S : ty_H h σ) (I : IV σ ds r0) (U : US σ) (A_tx : LB h tx (txt ta)) (A_rw : LT h rw 1200 bs)
    (kk : ∀ h' σ' l9 c' s', ty_H h' σ' → IV σ' ds (r0 + 138) → US σ' → LT h' rw 1200 bs → c' ≤ c + 12 → s' ≤ s + 72 → mi_wp X 82 mi_ML 163 [(4, .int (Int32.ofInt ((a : Int) + 1))), (8, .int (Int32.ofInt 6)), (9, .int (Int32.ofInt l9)), (7, .ref nm), (6, .ref tx), (5, .int (Int32.ofInt ((txt ta).length : Int))), (3, .ref nx), (2, .ref rw), (1, .ref 0), (0, .retAddr 3)] [] h' c' s' Q) : mi_wp X 82 mi_ML 343 [(8, .int (Int32.ofInt 0)), (7, .ref nm), (6, .ref tx), (5, .int (Int32.ofInt ((txt ta).length : Int))), (4, .int (Int32.ofInt (a : Int))), (3, .ref nx), (2, .ref rw), (1, .ref 0), (0, .retAddr 3)] [] h c s Q := by
  obtain ⟨tb, hdb, db⟩ := hall 0 (by decide)
  refine in_headA (b := 0) S I U (by omega) hd ha hdb ha6 (by decide) da db A_tx b55_tx A_rw b55_rw (fun h1 σ1 σm x9 c1 s1 S1 I1 U1 T1 R1 m1 hc1 hs1 => ?_)
  refine in_tail (b := 0) S1 I1 U1 (by omega) hd ha hdb ha6 (by decide) da db T1 b55_tx R1 b55_rw m1 (fun h2 σ2 S2 I2 U2 T2 R2 => ?_)
  exact in_loop (cc := c) (ss := s) hd hall ha ha6 da b55_tx b55_rw r0 hr0 kk 5 1 rfl h2 σ2 x9 c1 s1 S2 (IV_mono I2 (by omega)) U2 T2 R2 (by omega) (by omega)
theorem in_firstB {rw nx nm a tx : Nat} {l9 : Int} {ta : tr} {bs : List Int} {c s : Nat} {Q : mi_Z → Prop} (hd : ds.length ≤ 24) (hall : ∀ b, b < 6 → ∃ t, ds[b]? = some (tokY (b + 1), t) ∧ DT t) (ha : ds[a]? = some (tokY (a + 1), ta)) (ha6 : a < 6) (da : DT ta) (b55_tx : 55 ≤ tx) (b55_rw : 55 ≤ rw) (r0 : Int) (hr0 : r0 ≤ 98000000) (S : ty_H h σ) (I : IV σ ds r0) (U : US σ) (A_tx : LB h tx (txt ta)) (A_rw : LT h rw 1200 bs)
    (kk : ∀ h' σ' l9 c' s', ty_H h' σ' → IV σ' ds (r0 + 138) → US σ' → LT h' rw 1200 bs → c' ≤ c + 12 → s' ≤ s + 72 → mi_wp X 82 mi_ML 163 [(4, .int (Int32.ofInt ((a : Int) + 1))), (8, .int (Int32.ofInt 6)), (9, .int (Int32.ofInt l9)), (7, .ref nm), (6, .ref tx), (5, .int (Int32.ofInt ((txt ta).length : Int))), (3, .ref nx), (2, .ref rw), (1, .ref 0), (0, .retAddr 3)] [] h' c' s' Q) : mi_wp X 82 mi_ML 343 [(8, .int (Int32.ofInt 0)), (7, .ref nm), (6, .ref tx), (5, .int (Int32.ofInt ((txt ta).length : Int))), (4, .int (Int32.ofInt (a : Int))), (9, .int (Int32.ofInt l9)), (3, .ref nx), (2, .ref rw), (1, .ref 0), (0, .retAddr 3)] [] h c s Q := by
  obtain ⟨tb, hdb, db⟩ := hall 0 (by decide)
  refine in_headB (b := 0) S I U (by omega) hd ha hdb ha6 (by decide) da db A_tx b55_tx A_rw b55_rw (fun h1 σ1 σm x9 c1 s1 S1 I1 U1 T1 R1 m1 hc1 hs1 => ?_)
  refine in_tail (b := 0) S1 I1 U1 (by omega) hd ha hdb ha6 (by decide) da db T1 b55_tx R1 b55_rw m1 (fun h2 σ2 S2 I2 U2 T2 R2 => ?_)
  exact in_loop (cc := c) (ss := s) hd hall ha ha6 da b55_tx b55_rw r0 hr0 kk 5 1 rfl h2 σ2 x9 c1 s1 S2 (IV_mono I2 (by omega)) U2 T2 R2 (by omega) (by omega)
end LW
