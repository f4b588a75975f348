/-! ===== Writer: a list (printed by wip/gen/p_wnamed.py) ===== -/
theorem wr_named {X : mi_X} {σ : mi_Sg} {d : Nat} {nd : Int} {P : mi_Sg → Prop} (n0 : 0 < nd) (n1 : nd < mi_sF σ 9 8) (nr : mi_sA σ 12 nd = nd) (hk : ∀ w, 0 ≤ w → w < 3 → 0 ≤ ty_k σ nd w ∧ ty_k σ nd w < mi_sF σ 9 8) (k0 : 0 < ty_K' σ nd 0) (k0b : ty_K' σ nd 0 < 1000) (k1 : ty_K' σ nd 1 = 0) (k2 : ty_K' σ nd 2 = 0) (K : kb σ) (s0 : 0 ≤ mi_sF σ 52 5) (s1 : mi_sF σ 52 5 + 4 ≤ 400) (H : ty_Cv X (d + 2) mi_M155 [(0, .ref 52), (1, .int (Int32.ofInt nd)), (2, .int (Int32.ofInt 0))] (wpb (wpb (wpb (wpb σ 108) 105) 115) 116) (fun σ1 => (0 ≤ mi_sF σ1 52 4 ∧ mi_sF σ1 52 4 + 1 ≤ 1024) ∧ P (wlt σ1 (-32)))) : ty_Cv X (d + 3) mi_M162 [(0, .ref 52), (1, .int (Int32.ofInt nd)), (2, .int (Int32.ofInt 2))] σ (fun σ' => P σ') := by
  intro h S
  have fr := mi_Fm_rf h
  refine mi_wp_p (pc' := 1) (st' := [.ref 52]) rfl rfl rfl ?_
  refine ty_s_gr S rfl rfl rfl (List.mem_of_getElem? (i := 65) rfl) ?_
  refine mi_wp_p (pc' := 5) (st' := [.int (Int32.ofInt 2), .ref 17]) rfl rfl rfl ?_
  refine ty_s_cj rfl rfl rfl rfl rfl rfl (mi_cal_v2 (np := 1) (args := [.ref 17, .int (Int32.ofInt 2)]) (rest := []) rfl rfl rfl rfl rfl (Nat.le_of_ble_eq_true rfl) rfl rfl (Nat.le_of_ble_eq_true rfl) (ty_rcS S (List.mem_of_getElem? (i := 10) rfl))) (Nat.le_of_ble_eq_true rfl) S (kn_keyOfType (a := 2) (by omega) (by rw [K.1]; omega) (by rw [K.1]; omega)) ?_
  intro x hh σu S f P
  obtain ⟨e1, e2⟩ := P
  rw [e2] at S
  rw [e1, K.2.2.2.1]
  clear e1 e2
  replace fr := mi_Fm_tr fr f
  refine mi_wp_p (pc' := 9) (l' := [(3, .long 1818850164), (0, .ref 52), (1, .int (Int32.ofInt nd)), (2, .int (Int32.ofInt 2))]) (st' := []) rfl rfl rfl ?_
  refine mi_s_k (pc' := 11) (e := 56) rfl rfl rfl (by decide +kernel) ?_
  refine mi_wp_p (pc' := 13) (l' := [(5, .int (Int32.ofInt 56)), (3, .long 1818850164), (0, .ref 52), (1, .int (Int32.ofInt nd)), (2, .int (Int32.ofInt 2))]) (st' := []) rfl rfl rfl ?_
  refine mi_wp_p (pc' := 15) (st' := [.int (Int32.ofInt 56)]) rfl rfl rfl ?_
  refine mi_s_if1 (t := 46) rfl rfl rfl (by unfold mi_R; omega) (fun hc_ => absurd (show (56 : Int) < 0 from hc_) (by omega)) (fun _ => ?_)
  refine mi_wp_p (pc' := 19) (st' := [.long 1818850164]) rfl rfl rfl ?_
  refine mi_wp_p (pc' := 21) (st' := [.int (Int32.ofInt 56), .long 1818850164]) rfl rfl rfl ?_
  refine mi_wp_p (pc' := 22) (st' := [.long 0]) rfl rfl rfl ?_
  refine mi_s_ldc2 (y := 255) rfl rfl rfl ?_
  refine mi_wp_p (pc' := 26) (st' := [.long 0]) rfl rfl rfl ?_
  refine mi_wp_p (pc' := 27) (st' := [.int (Int32.ofInt 0)]) rfl rfl rfl ?_
  refine mi_wp_p (pc' := 29) (l' := [(6, .int (Int32.ofInt 0)), (5, .int (Int32.ofInt 56)), (3, .long 1818850164), (0, .ref 52), (1, .int (Int32.ofInt nd)), (2, .int (Int32.ofInt 2))]) (st' := []) rfl rfl rfl ?_
  refine mi_wp_p (pc' := 31) (st' := [.int (Int32.ofInt 0)]) rfl rfl rfl ?_
  refine mi_s_if1 (t := 40) rfl rfl rfl (by unfold mi_R; omega) (fun _ => ?_) (fun hc_ => absurd (show (0 : Int) = 0 by omega) hc_)
  refine mi_s_inc (l' := [(5, .int (Int32.ofInt 48)), (6, .int (Int32.ofInt 0)), (3, .long 1818850164), (0, .ref 52), (1, .int (Int32.ofInt nd)), (2, .int (Int32.ofInt 2))]) rfl rfl rfl (by decide) rfl ?_
  refine mi_wp_p (pc' := 13) rfl rfl rfl ?_
  refine mi_wp_p (pc' := 15) (st' := [.int (Int32.ofInt 48)]) rfl rfl rfl ?_
  refine mi_s_if1 (t := 46) rfl rfl rfl (by unfold mi_R; omega) (fun hc_ => absurd (show (48 : Int) < 0 from hc_) (by omega)) (fun _ => ?_)
  refine mi_wp_p (pc' := 19) (st' := [.long 1818850164]) rfl rfl rfl ?_
  refine mi_wp_p (pc' := 21) (st' := [.int (Int32.ofInt 48), .long 1818850164]) rfl rfl rfl ?_
  refine mi_wp_p (pc' := 22) (st' := [.long 0]) rfl rfl rfl ?_
  refine mi_s_ldc2 (y := 255) rfl rfl rfl ?_
  refine mi_wp_p (pc' := 26) (st' := [.long 0]) rfl rfl rfl ?_
  refine mi_wp_p (pc' := 27) (st' := [.int (Int32.ofInt 0)]) rfl rfl rfl ?_
  refine mi_wp_p (pc' := 29) (l' := [(6, .int (Int32.ofInt 0)), (5, .int (Int32.ofInt 48)), (3, .long 1818850164), (0, .ref 52), (1, .int (Int32.ofInt nd)), (2, .int (Int32.ofInt 2))]) (st' := []) rfl rfl rfl ?_
  refine mi_wp_p (pc' := 31) (st' := [.int (Int32.ofInt 0)]) rfl rfl rfl ?_
  refine mi_s_if1 (t := 40) rfl rfl rfl (by unfold mi_R; omega) (fun _ => ?_) (fun hc_ => absurd (show (0 : Int) = 0 by omega) hc_)
  refine mi_s_inc (l' := [(5, .int (Int32.ofInt 40)), (6, .int (Int32.ofInt 0)), (3, .long 1818850164), (0, .ref 52), (1, .int (Int32.ofInt nd)), (2, .int (Int32.ofInt 2))]) rfl rfl rfl (by decide) rfl ?_
  refine mi_wp_p (pc' := 13) rfl rfl rfl ?_
  refine mi_wp_p (pc' := 15) (st' := [.int (Int32.ofInt 40)]) rfl rfl rfl ?_
  refine mi_s_if1 (t := 46) rfl rfl rfl (by unfold mi_R; omega) (fun hc_ => absurd (show (40 : Int) < 0 from hc_) (by omega)) (fun _ => ?_)
  refine mi_wp_p (pc' := 19) (st' := [.long 1818850164]) rfl rfl rfl ?_
  refine mi_wp_p (pc' := 21) (st' := [.int (Int32.ofInt 40), .long 1818850164]) rfl rfl rfl ?_
  refine mi_wp_p (pc' := 22) (st' := [.long 0]) rfl rfl rfl ?_
  refine mi_s_ldc2 (y := 255) rfl rfl rfl ?_
  refine mi_wp_p (pc' := 26) (st' := [.long 0]) rfl rfl rfl ?_
  refine mi_wp_p (pc' := 27) (st' := [.int (Int32.ofInt 0)]) rfl rfl rfl ?_
  refine mi_wp_p (pc' := 29) (l' := [(6, .int (Int32.ofInt 0)), (5, .int (Int32.ofInt 40)), (3, .long 1818850164), (0, .ref 52), (1, .int (Int32.ofInt nd)), (2, .int (Int32.ofInt 2))]) (st' := []) rfl rfl rfl ?_
  refine mi_wp_p (pc' := 31) (st' := [.int (Int32.ofInt 0)]) rfl rfl rfl ?_
  refine mi_s_if1 (t := 40) rfl rfl rfl (by unfold mi_R; omega) (fun _ => ?_) (fun hc_ => absurd (show (0 : Int) = 0 by omega) hc_)
  refine mi_s_inc (l' := [(5, .int (Int32.ofInt 32)), (6, .int (Int32.ofInt 0)), (3, .long 1818850164), (0, .ref 52), (1, .int (Int32.ofInt nd)), (2, .int (Int32.ofInt 2))]) rfl rfl rfl (by decide) rfl ?_
  refine mi_wp_p (pc' := 13) rfl rfl rfl ?_
  refine mi_wp_p (pc' := 15) (st' := [.int (Int32.ofInt 32)]) rfl rfl rfl ?_
  refine mi_s_if1 (t := 46) rfl rfl rfl (by unfold mi_R; omega) (fun hc_ => absurd (show (32 : Int) < 0 from hc_) (by omega)) (fun _ => ?_)
  refine mi_wp_p (pc' := 19) (st' := [.long 1818850164]) rfl rfl rfl ?_
  refine mi_wp_p (pc' := 21) (st' := [.int (Int32.ofInt 32), .long 1818850164]) rfl rfl rfl ?_
  refine mi_wp_p (pc' := 22) (st' := [.long 0]) rfl rfl rfl ?_
  refine mi_s_ldc2 (y := 255) rfl rfl rfl ?_
  refine mi_wp_p (pc' := 26) (st' := [.long 0]) rfl rfl rfl ?_
  refine mi_wp_p (pc' := 27) (st' := [.int (Int32.ofInt 0)]) rfl rfl rfl ?_
  refine mi_wp_p (pc' := 29) (l' := [(6, .int (Int32.ofInt 0)), (5, .int (Int32.ofInt 32)), (3, .long 1818850164), (0, .ref 52), (1, .int (Int32.ofInt nd)), (2, .int (Int32.ofInt 2))]) (st' := []) rfl rfl rfl ?_
  refine mi_wp_p (pc' := 31) (st' := [.int (Int32.ofInt 0)]) rfl rfl rfl ?_
  refine mi_s_if1 (t := 40) rfl rfl rfl (by unfold mi_R; omega) (fun _ => ?_) (fun hc_ => absurd (show (0 : Int) = 0 by omega) hc_)
  refine mi_s_inc (l' := [(5, .int (Int32.ofInt 24)), (6, .int (Int32.ofInt 0)), (3, .long 1818850164), (0, .ref 52), (1, .int (Int32.ofInt nd)), (2, .int (Int32.ofInt 2))]) rfl rfl rfl (by decide) rfl ?_
  refine mi_wp_p (pc' := 13) rfl rfl rfl ?_
  refine mi_wp_p (pc' := 15) (st' := [.int (Int32.ofInt 24)]) rfl rfl rfl ?_
  refine mi_s_if1 (t := 46) rfl rfl rfl (by unfold mi_R; omega) (fun hc_ => absurd (show (24 : Int) < 0 from hc_) (by omega)) (fun _ => ?_)
  refine mi_wp_p (pc' := 19) (st' := [.long 1818850164]) rfl rfl rfl ?_
  refine mi_wp_p (pc' := 21) (st' := [.int (Int32.ofInt 24), .long 1818850164]) rfl rfl rfl ?_
  refine mi_wp_p (pc' := 22) (st' := [.long 108]) rfl rfl rfl ?_
  refine mi_s_ldc2 (y := 255) rfl rfl rfl ?_
  refine mi_wp_p (pc' := 26) (st' := [.long 108]) rfl rfl rfl ?_
  refine mi_wp_p (pc' := 27) (st' := [.int (Int32.ofInt 108)]) rfl rfl rfl ?_
  refine mi_wp_p (pc' := 29) (l' := [(6, .int (Int32.ofInt 108)), (5, .int (Int32.ofInt 24)), (3, .long 1818850164), (0, .ref 52), (1, .int (Int32.ofInt nd)), (2, .int (Int32.ofInt 2))]) (st' := []) rfl rfl rfl ?_
  refine mi_wp_p (pc' := 31) (st' := [.int (Int32.ofInt 108)]) rfl rfl rfl ?_
  refine mi_s_if1 (t := 40) rfl rfl rfl (by unfold mi_R; omega) (fun hc_ => absurd (show (108 : Int) = 0 from hc_) (by omega)) (fun _ => ?_)
  refine mi_wp_p (pc' := 35) (st' := [.ref 52]) rfl rfl rfl ?_
  refine mi_wp_p (pc' := 37) (st' := [.int (Int32.ofInt 108), .ref 52]) rfl rfl rfl ?_
  refine ty_s_cv rfl rfl rfl rfl rfl rfl (mi_cal_v2 (np := 1) (args := [.ref 52, .int (Int32.ofInt 108)]) (rest := []) rfl rfl rfl rfl rfl (Nat.le_of_ble_eq_true rfl) rfl rfl (Nat.le_of_ble_eq_true rfl) (ty_rcS S (List.mem_of_getElem? (i := 27) rfl))) (Nat.le_of_ble_eq_true rfl) S (wr_putByte (σ := σ) (by show 0 ≤ mi_sF σ 52 5; omega) (by show mi_sF σ 52 5 < 400; omega) (by omega) (by omega)) ?_
  intro hh σ2 S f P
  subst P
  replace fr := mi_Fm_tr fr f
  refine mi_s_inc (l' := [(5, .int (Int32.ofInt 16)), (6, .int (Int32.ofInt 108)), (3, .long 1818850164), (0, .ref 52), (1, .int (Int32.ofInt nd)), (2, .int (Int32.ofInt 2))]) rfl rfl rfl (by decide) rfl ?_
  refine mi_wp_p (pc' := 13) rfl rfl rfl ?_
  refine mi_wp_p (pc' := 15) (st' := [.int (Int32.ofInt 16)]) rfl rfl rfl ?_
  refine mi_s_if1 (t := 46) rfl rfl rfl (by unfold mi_R; omega) (fun hc_ => absurd (show (16 : Int) < 0 from hc_) (by omega)) (fun _ => ?_)
  refine mi_wp_p (pc' := 19) (st' := [.long 1818850164]) rfl rfl rfl ?_
  refine mi_wp_p (pc' := 21) (st' := [.int (Int32.ofInt 16), .long 1818850164]) rfl rfl rfl ?_
  refine mi_wp_p (pc' := 22) (st' := [.long 27753]) rfl rfl rfl ?_
  refine mi_s_ldc2 (y := 255) rfl rfl rfl ?_
  refine mi_wp_p (pc' := 26) (st' := [.long 105]) rfl rfl rfl ?_
  refine mi_wp_p (pc' := 27) (st' := [.int (Int32.ofInt 105)]) rfl rfl rfl ?_
  refine mi_wp_p (pc' := 29) (l' := [(6, .int (Int32.ofInt 105)), (5, .int (Int32.ofInt 16)), (3, .long 1818850164), (0, .ref 52), (1, .int (Int32.ofInt nd)), (2, .int (Int32.ofInt 2))]) (st' := []) rfl rfl rfl ?_
  refine mi_wp_p (pc' := 31) (st' := [.int (Int32.ofInt 105)]) rfl rfl rfl ?_
  refine mi_s_if1 (t := 40) rfl rfl rfl (by unfold mi_R; omega) (fun hc_ => absurd (show (105 : Int) = 0 from hc_) (by omega)) (fun _ => ?_)
  refine mi_wp_p (pc' := 35) (st' := [.ref 52]) rfl rfl rfl ?_
  refine mi_wp_p (pc' := 37) (st' := [.int (Int32.ofInt 105), .ref 52]) rfl rfl rfl ?_
  refine ty_s_cv rfl rfl rfl rfl rfl rfl (mi_cal_v2 (np := 1) (args := [.ref 52, .int (Int32.ofInt 105)]) (rest := []) rfl rfl rfl rfl rfl (Nat.le_of_ble_eq_true rfl) rfl rfl (Nat.le_of_ble_eq_true rfl) (ty_rcS S (List.mem_of_getElem? (i := 27) rfl))) (Nat.le_of_ble_eq_true rfl) S (wr_putByte (σ := (wpb σ 108)) (by show 0 ≤ mi_sF σ 52 5 + 1; omega) (by show mi_sF σ 52 5 + 1 < 400; omega) (by omega) (by omega)) ?_
  intro hh σ2 S f P
  subst P
  replace fr := mi_Fm_tr fr f
  refine mi_s_inc (l' := [(5, .int (Int32.ofInt 8)), (6, .int (Int32.ofInt 105)), (3, .long 1818850164), (0, .ref 52), (1, .int (Int32.ofInt nd)), (2, .int (Int32.ofInt 2))]) rfl rfl rfl (by decide) rfl ?_
  refine mi_wp_p (pc' := 13) rfl rfl rfl ?_
  refine mi_wp_p (pc' := 15) (st' := [.int (Int32.ofInt 8)]) rfl rfl rfl ?_
  refine mi_s_if1 (t := 46) rfl rfl rfl (by unfold mi_R; omega) (fun hc_ => absurd (show (8 : Int) < 0 from hc_) (by omega)) (fun _ => ?_)
  refine mi_wp_p (pc' := 19) (st' := [.long 1818850164]) rfl rfl rfl ?_
  refine mi_wp_p (pc' := 21) (st' := [.int (Int32.ofInt 8), .long 1818850164]) rfl rfl rfl ?_
  refine mi_wp_p (pc' := 22) (st' := [.long 7104883]) rfl rfl rfl ?_
  refine mi_s_ldc2 (y := 255) rfl rfl rfl ?_
  refine mi_wp_p (pc' := 26) (st' := [.long 115]) rfl rfl rfl ?_
  refine mi_wp_p (pc' := 27) (st' := [.int (Int32.ofInt 115)]) rfl rfl rfl ?_
  refine mi_wp_p (pc' := 29) (l' := [(6, .int (Int32.ofInt 115)), (5, .int (Int32.ofInt 8)), (3, .long 1818850164), (0, .ref 52), (1, .int (Int32.ofInt nd)), (2, .int (Int32.ofInt 2))]) (st' := []) rfl rfl rfl ?_
  refine mi_wp_p (pc' := 31) (st' := [.int (Int32.ofInt 115)]) rfl rfl rfl ?_
  refine mi_s_if1 (t := 40) rfl rfl rfl (by unfold mi_R; omega) (fun hc_ => absurd (show (115 : Int) = 0 from hc_) (by omega)) (fun _ => ?_)
  refine mi_wp_p (pc' := 35) (st' := [.ref 52]) rfl rfl rfl ?_
  refine mi_wp_p (pc' := 37) (st' := [.int (Int32.ofInt 115), .ref 52]) rfl rfl rfl ?_
  refine ty_s_cv rfl rfl rfl rfl rfl rfl (mi_cal_v2 (np := 1) (args := [.ref 52, .int (Int32.ofInt 115)]) (rest := []) rfl rfl rfl rfl rfl (Nat.le_of_ble_eq_true rfl) rfl rfl (Nat.le_of_ble_eq_true rfl) (ty_rcS S (List.mem_of_getElem? (i := 27) rfl))) (Nat.le_of_ble_eq_true rfl) S (wr_putByte (σ := (wpb (wpb σ 108) 105)) (by show 0 ≤ mi_sF σ 52 5 + 1 + 1; omega) (by show mi_sF σ 52 5 + 1 + 1 < 400; omega) (by omega) (by omega)) ?_
  intro hh σ2 S f P
  subst P
  replace fr := mi_Fm_tr fr f
  refine mi_s_inc (l' := [(5, .int (Int32.ofInt 0)), (6, .int (Int32.ofInt 115)), (3, .long 1818850164), (0, .ref 52), (1, .int (Int32.ofInt nd)), (2, .int (Int32.ofInt 2))]) rfl rfl rfl (by decide) rfl ?_
  refine mi_wp_p (pc' := 13) rfl rfl rfl ?_
  refine mi_wp_p (pc' := 15) (st' := [.int (Int32.ofInt 0)]) rfl rfl rfl ?_
  refine mi_s_if1 (t := 46) rfl rfl rfl (by unfold mi_R; omega) (fun hc_ => absurd (show (0 : Int) < 0 from hc_) (by omega)) (fun _ => ?_)
  refine mi_wp_p (pc' := 19) (st' := [.long 1818850164]) rfl rfl rfl ?_
  refine mi_wp_p (pc' := 21) (st' := [.int (Int32.ofInt 0), .long 1818850164]) rfl rfl rfl ?_
  refine mi_wp_p (pc' := 22) (st' := [.long 1818850164]) rfl rfl rfl ?_
  refine mi_s_ldc2 (y := 255) rfl rfl rfl ?_
  refine mi_wp_p (pc' := 26) (st' := [.long 116]) rfl rfl rfl ?_
  refine mi_wp_p (pc' := 27) (st' := [.int (Int32.ofInt 116)]) rfl rfl rfl ?_
  refine mi_wp_p (pc' := 29) (l' := [(6, .int (Int32.ofInt 116)), (5, .int (Int32.ofInt 0)), (3, .long 1818850164), (0, .ref 52), (1, .int (Int32.ofInt nd)), (2, .int (Int32.ofInt 2))]) (st' := []) rfl rfl rfl ?_
  refine mi_wp_p (pc' := 31) (st' := [.int (Int32.ofInt 116)]) rfl rfl rfl ?_
  refine mi_s_if1 (t := 40) rfl rfl rfl (by unfold mi_R; omega) (fun hc_ => absurd (show (116 : Int) = 0 from hc_) (by omega)) (fun _ => ?_)
  refine mi_wp_p (pc' := 35) (st' := [.ref 52]) rfl rfl rfl ?_
  refine mi_wp_p (pc' := 37) (st' := [.int (Int32.ofInt 116), .ref 52]) rfl rfl rfl ?_
  refine ty_s_cv rfl rfl rfl rfl rfl rfl (mi_cal_v2 (np := 1) (args := [.ref 52, .int (Int32.ofInt 116)]) (rest := []) rfl rfl rfl rfl rfl (Nat.le_of_ble_eq_true rfl) rfl rfl (Nat.le_of_ble_eq_true rfl) (ty_rcS S (List.mem_of_getElem? (i := 27) rfl))) (Nat.le_of_ble_eq_true rfl) S (wr_putByte (σ := (wpb (wpb (wpb σ 108) 105) 115)) (by show 0 ≤ mi_sF σ 52 5 + 1 + 1 + 1; omega) (by show mi_sF σ 52 5 + 1 + 1 + 1 < 400; omega) (by omega) (by omega)) ?_
  intro hh σ2 S f P
  subst P
  replace fr := mi_Fm_tr fr f
  refine mi_s_inc (l' := [(5, .int (Int32.ofInt (-8))), (6, .int (Int32.ofInt 116)), (3, .long 1818850164), (0, .ref 52), (1, .int (Int32.ofInt nd)), (2, .int (Int32.ofInt 2))]) rfl rfl rfl (by decide) rfl ?_
  refine mi_wp_p (pc' := 13) rfl rfl rfl ?_
  refine mi_wp_p (pc' := 15) (st' := [.int (Int32.ofInt (-8))]) rfl rfl rfl ?_
  refine mi_s_if1 (t := 46) rfl rfl rfl (by unfold mi_R; omega) (fun _ => ?_) (fun hc_ => absurd (show ((-8) : Int) < 0 by omega) hc_)
  refine mi_wp_p (pc' := 47) (st' := [.int (Int32.ofInt 2)]) rfl rfl rfl ?_
  refine mi_wp_p (pc' := 49) (l' := [(5, .int (Int32.ofInt 2)), (6, .int (Int32.ofInt 116)), (3, .long 1818850164), (0, .ref 52), (1, .int (Int32.ofInt nd)), (2, .int (Int32.ofInt 2))]) (st' := []) rfl rfl rfl ?_
  refine mi_wp_p (pc' := 51) (st' := [.int (Int32.ofInt 2)]) rfl rfl rfl ?_
  refine mi_s_if1 (t := 86) rfl rfl rfl (by unfold mi_R; omega) (fun hc_ => absurd (show (2 : Int) < 0 from hc_) (by omega)) (fun _ => ?_)
  refine mi_wp_p (pc' := 55) (st' := [.ref 52]) rfl rfl rfl ?_
  refine ty_s_gr S rfl rfl rfl (List.mem_of_getElem? (i := 64) rfl) ?_
  refine mi_wp_p (pc' := 59) (st' := [.int (Int32.ofInt nd), .ref 9]) rfl rfl rfl ?_
  refine mi_wp_p (pc' := 61) (st' := [.int (Int32.ofInt 2), .int (Int32.ofInt nd), .ref 9]) rfl rfl rfl ?_
  refine ty_s_ci rfl rfl rfl rfl rfl rfl (mi_cal_v2 (np := 2) (args := [.ref 9, .int (Int32.ofInt nd), .int (Int32.ofInt 2)]) (rest := []) rfl rfl rfl rfl rfl (Nat.le_of_ble_eq_true rfl) rfl rfl (Nat.le_of_ble_eq_true rfl) (ty_rcS S (List.mem_of_getElem? (i := 5) rfl))) (Nat.le_of_ble_eq_true rfl) S (ty_kidOf (σ := (wpb (wpb (wpb (wpb σ 108) 105) 115) 116)) n0 n1 (by omega) (by show 0 ≤ ty_k σ (mi_sA σ 12 nd) 2 ∧ ty_k σ (mi_sA σ 12 nd) 2 < mi_sF σ 9 8; rw [nr]; exact hk 2 (by omega) (by omega))) ?_
  intro x hh σu S f P
  obtain ⟨g1, g2⟩ := P
  rw [g2] at S
  replace g1 : x = mi_sA σ 12 (ty_k σ (mi_sA σ 12 nd) 2) := g1
  rw [nr] at g1
  replace g1 : x = ty_K' σ nd 2 := g1
  rw [k2] at g1
  rw [g1]
  clear g1 g2
  replace fr := mi_Fm_tr fr f
  refine mi_s_if1 (t := 80) rfl rfl rfl (by unfold mi_R; omega) (fun _ => ?_) (fun hc_ => absurd (show (0 : Int) = 0 by omega) hc_)
  refine mi_s_inc (l' := [(5, .int (Int32.ofInt 1)), (6, .int (Int32.ofInt 116)), (3, .long 1818850164), (0, .ref 52), (1, .int (Int32.ofInt nd)), (2, .int (Int32.ofInt 2))]) rfl rfl rfl (by decide) rfl ?_
  refine mi_wp_p (pc' := 49) rfl rfl rfl ?_
  refine mi_wp_p (pc' := 51) (st' := [.int (Int32.ofInt 1)]) rfl rfl rfl ?_
  refine mi_s_if1 (t := 86) rfl rfl rfl (by unfold mi_R; omega) (fun hc_ => absurd (show (1 : Int) < 0 from hc_) (by omega)) (fun _ => ?_)
  refine mi_wp_p (pc' := 55) (st' := [.ref 52]) rfl rfl rfl ?_
  refine ty_s_gr S rfl rfl rfl (List.mem_of_getElem? (i := 64) rfl) ?_
  refine mi_wp_p (pc' := 59) (st' := [.int (Int32.ofInt nd), .ref 9]) rfl rfl rfl ?_
  refine mi_wp_p (pc' := 61) (st' := [.int (Int32.ofInt 1), .int (Int32.ofInt nd), .ref 9]) rfl rfl rfl ?_
  refine ty_s_ci rfl rfl rfl rfl rfl rfl (mi_cal_v2 (np := 2) (args := [.ref 9, .int (Int32.ofInt nd), .int (Int32.ofInt 1)]) (rest := []) rfl rfl rfl rfl rfl (Nat.le_of_ble_eq_true rfl) rfl rfl (Nat.le_of_ble_eq_true rfl) (ty_rcS S (List.mem_of_getElem? (i := 5) rfl))) (Nat.le_of_ble_eq_true rfl) S (ty_kidOf (σ := (wpb (wpb (wpb (wpb σ 108) 105) 115) 116)) n0 n1 (by omega) (by show 0 ≤ ty_k σ (mi_sA σ 12 nd) 1 ∧ ty_k σ (mi_sA σ 12 nd) 1 < mi_sF σ 9 8; rw [nr]; exact hk 1 (by omega) (by omega))) ?_
  intro x hh σu S f P
  obtain ⟨g1, g2⟩ := P
  rw [g2] at S
  replace g1 : x = mi_sA σ 12 (ty_k σ (mi_sA σ 12 nd) 1) := g1
  rw [nr] at g1
  replace g1 : x = ty_K' σ nd 1 := g1
  rw [k1] at g1
  rw [g1]
  clear g1 g2
  replace fr := mi_Fm_tr fr f
  refine mi_s_if1 (t := 80) rfl rfl rfl (by unfold mi_R; omega) (fun _ => ?_) (fun hc_ => absurd (show (0 : Int) = 0 by omega) hc_)
  refine mi_s_inc (l' := [(5, .int (Int32.ofInt 0)), (6, .int (Int32.ofInt 116)), (3, .long 1818850164), (0, .ref 52), (1, .int (Int32.ofInt nd)), (2, .int (Int32.ofInt 2))]) rfl rfl rfl (by decide) rfl ?_
  refine mi_wp_p (pc' := 49) rfl rfl rfl ?_
  refine mi_wp_p (pc' := 51) (st' := [.int (Int32.ofInt 0)]) rfl rfl rfl ?_
  refine mi_s_if1 (t := 86) rfl rfl rfl (by unfold mi_R; omega) (fun hc_ => absurd (show (0 : Int) < 0 from hc_) (by omega)) (fun _ => ?_)
  refine mi_wp_p (pc' := 55) (st' := [.ref 52]) rfl rfl rfl ?_
  refine ty_s_gr S rfl rfl rfl (List.mem_of_getElem? (i := 64) rfl) ?_
  refine mi_wp_p (pc' := 59) (st' := [.int (Int32.ofInt nd), .ref 9]) rfl rfl rfl ?_
  refine mi_wp_p (pc' := 61) (st' := [.int (Int32.ofInt 0), .int (Int32.ofInt nd), .ref 9]) rfl rfl rfl ?_
  refine ty_s_ci rfl rfl rfl rfl rfl rfl (mi_cal_v2 (np := 2) (args := [.ref 9, .int (Int32.ofInt nd), .int (Int32.ofInt 0)]) (rest := []) rfl rfl rfl rfl rfl (Nat.le_of_ble_eq_true rfl) rfl rfl (Nat.le_of_ble_eq_true rfl) (ty_rcS S (List.mem_of_getElem? (i := 5) rfl))) (Nat.le_of_ble_eq_true rfl) S (ty_kidOf (σ := (wpb (wpb (wpb (wpb σ 108) 105) 115) 116)) n0 n1 (by omega) (by show 0 ≤ ty_k σ (mi_sA σ 12 nd) 0 ∧ ty_k σ (mi_sA σ 12 nd) 0 < mi_sF σ 9 8; rw [nr]; exact hk 0 (by omega) (by omega))) ?_
  intro x hh σu S f P
  obtain ⟨g1, g2⟩ := P
  rw [g2] at S
  replace g1 : x = mi_sA σ 12 (ty_k σ (mi_sA σ 12 nd) 0) := g1
  rw [nr] at g1
  replace g1 : x = ty_K' σ nd 0 := g1
  rw [g1]
  clear g1 g2
  replace fr := mi_Fm_tr fr f
  refine mi_s_if1 (t := 80) rfl rfl rfl (by unfold mi_R; omega) (fun hc_ => absurd (show (ty_K' σ nd 0) = 0 from hc_) (by omega)) (fun _ => ?_)
  refine mi_wp_p (pc' := 68) (st' := [.ref 52]) rfl rfl rfl ?_
  refine mi_wp_p (pc' := 69) (st' := [.int (Int32.ofInt nd), .ref 52]) rfl rfl rfl ?_
  refine mi_wp_p (pc' := 71) (st' := [.int (Int32.ofInt 0), .int (Int32.ofInt nd), .ref 52]) rfl rfl rfl ?_
  refine ty_s_cv rfl rfl rfl rfl rfl rfl (mi_cal_v2 (np := 2) (args := [.ref 52, .int (Int32.ofInt nd), .int (Int32.ofInt 0)]) (rest := []) rfl rfl rfl rfl rfl (Nat.le_of_ble_eq_true rfl) rfl rfl (Nat.le_of_ble_eq_true rfl) (ty_rcS S (List.mem_of_getElem? (i := 27) rfl))) (Nat.le_of_ble_eq_true rfl) S H ?_
  intro hh σ1 S f P1
  obtain ⟨⟨p0, p1⟩, P2⟩ := P1
  replace fr := mi_Fm_tr fr f
  refine mi_wp_p (pc' := 75) (st' := [.ref 52]) rfl rfl rfl ?_
  refine mi_s_k (pc' := 77) (e := (-32)) rfl rfl rfl (by decide +kernel) ?_
  refine ty_s_cv rfl rfl rfl rfl rfl rfl (mi_cal_v2 (np := 1) (args := [.ref 52, .int (Int32.ofInt (-32))]) (rest := []) rfl rfl rfl rfl rfl (Nat.le_of_ble_eq_true rfl) rfl rfl (Nat.le_of_ble_eq_true rfl) (ty_rcS S (List.mem_of_getElem? (i := 27) rfl))) (Nat.le_of_ble_eq_true rfl) S (wr_later p0 (by omega)) ?_
  intro hh σ2 S f P
  subst P
  replace fr := mi_Fm_tr fr f
  refine mi_s_inc (l' := [(5, .int (Int32.ofInt (-1))), (6, .int (Int32.ofInt 116)), (3, .long 1818850164), (0, .ref 52), (1, .int (Int32.ofInt nd)), (2, .int (Int32.ofInt 2))]) rfl rfl rfl (by decide) rfl ?_
  refine mi_wp_p (pc' := 49) rfl rfl rfl ?_
  refine mi_wp_p (pc' := 51) (st' := [.int (Int32.ofInt (-1))]) rfl rfl rfl ?_
  refine mi_s_if1 (t := 86) rfl rfl rfl (by unfold mi_R; omega) (fun _ => ?_) (fun hc_ => absurd (show ((-1) : Int) < 0 by omega) hc_)
  exact ty_s_ret S fr rfl rfl rfl rfl ⟨rfl, P2⟩
theorem wr_n9 {X : mi_X} {σ : mi_Sg} {d : Nat} {nd : Int} {P : mi_Sg → Prop} (n0 : 0 < nd) (n1 : nd < mi_sF σ 9 8) (nr : mi_sA σ 12 nd = nd) (ht : mi_sA σ 10 nd = 9) (H : ty_Cv X (d + 4) mi_M162 [(0, .ref 52), (1, .int (Int32.ofInt nd)), (2, .int (Int32.ofInt 2))] σ P) : ty_Cv X (d + 5) mi_M163 [(0, .ref 52), (1, .int (Int32.ofInt nd))] σ (fun σ' => P σ') := by
  intro h S
  have fr := mi_Fm_rf h
  refine mi_wp_p (pc' := 1) (st' := [.ref 52]) rfl rfl rfl ?_
  refine ty_s_gr S rfl rfl rfl (List.mem_of_getElem? (i := 64) rfl) ?_
  refine mi_wp_p (pc' := 5) (st' := [.int (Int32.ofInt nd), .ref 9]) rfl rfl rfl ?_
  refine ty_s_ci rfl rfl rfl rfl rfl rfl (mi_cal_v2 (np := 1) (args := [.ref 9, .int (Int32.ofInt nd)]) (rest := []) rfl rfl rfl rfl rfl (Nat.le_of_ble_eq_true rfl) rfl rfl (Nat.le_of_ble_eq_true rfl) (ty_rcS S (List.mem_of_getElem? (i := 5) rfl))) (Nat.le_of_ble_eq_true rfl) S (ty_tagOf (by omega) n1) ?_
  intro x hh σu S f P
  obtain ⟨g1, g2⟩ := P
  rw [g2] at S
  rw [g1, nr, ht]
  clear g1 g2
  replace fr := mi_Fm_tr fr f
  refine mi_wp_p (pc' := 9) (l' := [(2, .int (Int32.ofInt 9)), (0, .ref 52), (1, .int (Int32.ofInt nd))]) (st' := []) rfl rfl rfl ?_
  refine mi_wp_p (pc' := 10) (st' := [.int (Int32.ofInt 9)]) rfl rfl rfl ?_
  refine mi_wp_p (pc' := 116) (l' := [(2, .int (Int32.ofInt 9)), (0, .ref 52), (1, .int (Int32.ofInt nd))]) (st' := []) rfl rfl rfl ?_
  refine mi_wp_p (pc' := 117) (st' := [.ref 52]) rfl rfl rfl ?_
  refine mi_wp_p (pc' := 118) (st' := [.int (Int32.ofInt nd), .ref 52]) rfl rfl rfl ?_
  refine mi_wp_p (pc' := 119) (st' := [.int (Int32.ofInt 9), .int (Int32.ofInt nd), .ref 52]) rfl rfl rfl ?_
  refine mi_s_k (pc' := 121) (e := 7) rfl rfl rfl (by decide +kernel) ?_
  refine mi_s_sub rfl rfl ?_
  refine mi_s_top (b := 2) rfl ?_
  refine ty_s_cv rfl rfl rfl rfl rfl rfl (mi_cal_v2 (np := 2) (args := [.ref 52, .int (Int32.ofInt nd), .int (Int32.ofInt 2)]) (rest := []) rfl rfl rfl rfl rfl (Nat.le_of_ble_eq_true rfl) rfl rfl (Nat.le_of_ble_eq_true rfl) (ty_rcS S (List.mem_of_getElem? (i := 27) rfl))) (Nat.le_of_ble_eq_true rfl) S H ?_
  intro hh σ2 S f P1
  replace fr := mi_Fm_tr fr f
  exact ty_s_ret S fr rfl rfl rfl rfl ⟨rfl, P1⟩
