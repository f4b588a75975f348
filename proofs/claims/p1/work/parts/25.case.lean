/-! ===== the law, from its switch on, on fresh objects (printed by wip/gen/p1walk.py) ===== -/
set_option maxRecDepth 100000 in
theorem mi_L_write {xs : Nat → Int32} {h : mi_H} {c s : Nat} {x1 : Int32} (q1 : xs 1 = x1) (g0 : mi_fv h 0 10 4 = some (.ref 17)) (f0 : mi_fv h 17 3 14 = some (.int 0)) (r0 : mi_fv h 55 11 0 = some (.int 0)) (r1 : mi_fv h 55 11 34 = some (.int 0))  : mi_wp (some (6, xs)) 21 mi_ML 362 [(4, .int (Int32.ofInt 0)), (3, .ref 98), (2, .ref 55), (1, .ref 0), (0, .retAddr 3)] [] h c s (fun z => ∃ h' c' s', z = (.inl (some (.int (Int32.ofInt 1))), h', c', s') ∧ c' ≤ c + 5000 ∧ s' ≤ s + 50000) := by
  refine mi_wp_p (pc' := 363) rfl rfl rfl ?_
  refine mi_wp_p (pc' := 364) rfl rfl rfl ?_
  refine mi_wp_p (pc' := 366) rfl rfl rfl ?_
  refine mi_wp_p (pc' := 367) rfl rfl rfl ?_
  refine mi_wp_p (pc' := 368) rfl rfl rfl ?_
  refine mi_wp_sld rfl rfl (by decide +kernel) (k := 1) (by decide +kernel) q1 ?_
  refine mi_wp_p (pc' := 370) rfl rfl rfl ?_
  refine mi_wp_c1 rfl rfl rfl rfl rfl rfl (mi_cal_s (np := 3) rfl rfl (Or.inr rfl) rfl (Nat.le_of_ble_eq_true rfl) (Nat.le_of_ble_eq_true rfl)) (Nat.le_of_ble_eq_true rfl) (mi_l_write g0 f0) ?_
  refine mi_wp_p (pc' := 375) rfl rfl rfl ?_
  refine mi_wp_p (pc' := 376) rfl rfl rfl ?_
  refine mi_wp_p (pc' := 377) rfl rfl rfl ?_
  refine mi_wp_p (pc' := 379) rfl rfl rfl ?_
  refine mi_wp_p (pc' := 380) rfl rfl rfl ?_
  refine mi_wp_p (pc' := 381) rfl rfl rfl ?_
  refine mi_wp_sld rfl rfl (by decide +kernel) (k := 1) (by decide +kernel) q1 ?_
  refine mi_wp_ce rfl rfl rfl rfl rfl rfl (mi_cal_v (np := 1) rfl rfl rfl rfl (Nat.le_of_ble_eq_true rfl) (Nat.le_of_ble_eq_true rfl) (mi_rc_of r0)) (Nat.le_of_ble_eq_true rfl) (mi_r_write r0 r1) ?_
  intro h9 q9
  obtain ⟨w, r0, rfl⟩ := q9
  refine mi_wp_p (pc' := 387) rfl rfl rfl ?_
  refine mi_wp_p (pc' := 388) rfl rfl rfl ?_
  refine mi_wp_c1 rfl rfl rfl rfl rfl rfl (mi_cal_v (np := 0) rfl rfl rfl rfl (Nat.le_of_ble_eq_true rfl) (Nat.le_of_ble_eq_true rfl) (mi_rc_of r0)) (Nat.le_of_ble_eq_true rfl) (mi_r_thrown r0) ?_
  refine mi_wp_p (pc' := 393) rfl rfl rfl ?_
  refine mi_wp_p (pc' := 398) rfl rfl (mi_br2 (b := true) (t := 398) (by decide +kernel) rfl) ?_
  refine mi_wp_p (pc' := 400) rfl rfl rfl ?_
  refine mi_wp_p (pc' := 415) rfl rfl (mi_br1 (b := true) (t := 415) (by decide +kernel) rfl) ?_
  refine mi_wp_p (pc' := 933) rfl rfl rfl ?_
  refine mi_wp_p (pc' := 936) rfl rfl rfl ?_
  refine mi_wp_p (pc' := 23) rfl rfl rfl ?_
  refine mi_wp_p (pc' := 25) rfl rfl rfl ?_
  refine mi_wp_p (pc' := 26) rfl rfl rfl ?_
  refine mi_wp_slen rfl rfl ?_
  refine mi_wp_p (pc' := 29) rfl rfl rfl ?_
  refine mi_wp_p (pc' := 30) rfl rfl rfl ?_
  refine mi_wp_p (pc' := 939) rfl rfl (mi_br2 (b := true) (t := 939) (by decide +kernel) rfl) ?_
  refine mi_wp_p (pc' := 940) rfl rfl rfl ?_
  exact mi_wp_r rfl rfl rfl rfl ⟨_, _, _, rfl, by omega, by omega⟩
set_option maxRecDepth 100000 in
theorem mi_L_writeConstructor {xs : Nat → Int32} {h : mi_H} {c s : Nat} {x1 : Int32} (q1 : xs 1 = x1) (g0 : mi_fv h 0 10 4 = some (.ref 17)) (f0 : mi_fv h 17 3 13 = some (.int 2)) (r0 : mi_fv h 55 11 0 = some (.int 0)) (r1 : mi_fv h 55 11 30 = some (.int 2))  : mi_wp (some (6, xs)) 21 mi_ML 418 [(4, .int (Int32.ofInt 0)), (3, .ref 98), (2, .ref 55), (1, .ref 0), (0, .retAddr 3)] [] h c s (fun z => ∃ h' c' s', z = (.inl (some (.int (Int32.ofInt 1))), h', c', s') ∧ c' ≤ c + 5000 ∧ s' ≤ s + 50000) := by
  refine mi_wp_p (pc' := 419) rfl rfl rfl ?_
  refine mi_wp_p (pc' := 420) rfl rfl rfl ?_
  refine mi_wp_p (pc' := 422) rfl rfl rfl ?_
  refine mi_wp_p (pc' := 423) rfl rfl rfl ?_
  refine mi_wp_p (pc' := 424) rfl rfl rfl ?_
  refine mi_wp_sld rfl rfl (by decide +kernel) (k := 1) (by decide +kernel) q1 ?_
  refine mi_wp_p (pc' := 426) rfl rfl rfl ?_
  refine mi_wp_c1 rfl rfl rfl rfl rfl rfl (mi_cal_s (np := 3) rfl rfl (Or.inr rfl) rfl (Nat.le_of_ble_eq_true rfl) (Nat.le_of_ble_eq_true rfl)) (Nat.le_of_ble_eq_true rfl) (mi_l_writeConstructor g0 f0) ?_
  refine mi_wp_p (pc' := 431) rfl rfl rfl ?_
  refine mi_wp_p (pc' := 432) rfl rfl rfl ?_
  refine mi_wp_p (pc' := 433) rfl rfl rfl ?_
  refine mi_wp_p (pc' := 435) rfl rfl rfl ?_
  refine mi_wp_p (pc' := 436) rfl rfl rfl ?_
  refine mi_wp_p (pc' := 437) rfl rfl rfl ?_
  refine mi_wp_sld rfl rfl (by decide +kernel) (k := 1) (by decide +kernel) q1 ?_
  refine mi_wp_ce rfl rfl rfl rfl rfl rfl (mi_cal_v (np := 1) rfl rfl rfl rfl (Nat.le_of_ble_eq_true rfl) (Nat.le_of_ble_eq_true rfl) (mi_rc_of r0)) (Nat.le_of_ble_eq_true rfl) (mi_r_writeConstructor r0 r1) ?_
  intro h9 q9
  obtain ⟨w, r0, rfl⟩ := q9
  refine mi_wp_p (pc' := 443) rfl rfl rfl ?_
  refine mi_wp_p (pc' := 444) rfl rfl rfl ?_
  refine mi_wp_c1 rfl rfl rfl rfl rfl rfl (mi_cal_v (np := 0) rfl rfl rfl rfl (Nat.le_of_ble_eq_true rfl) (Nat.le_of_ble_eq_true rfl) (mi_rc_of r0)) (Nat.le_of_ble_eq_true rfl) (mi_r_thrown r0) ?_
  refine mi_wp_p (pc' := 449) rfl rfl rfl ?_
  refine mi_wp_p (pc' := 454) rfl rfl (mi_br2 (b := true) (t := 454) (by decide +kernel) rfl) ?_
  refine mi_wp_p (pc' := 456) rfl rfl rfl ?_
  refine mi_wp_p (pc' := 471) rfl rfl (mi_br1 (b := true) (t := 471) (by decide +kernel) rfl) ?_
  refine mi_wp_p (pc' := 933) rfl rfl rfl ?_
  refine mi_wp_p (pc' := 936) rfl rfl rfl ?_
  refine mi_wp_p (pc' := 23) rfl rfl rfl ?_
  refine mi_wp_p (pc' := 25) rfl rfl rfl ?_
  refine mi_wp_p (pc' := 26) rfl rfl rfl ?_
  refine mi_wp_slen rfl rfl ?_
  refine mi_wp_p (pc' := 29) rfl rfl rfl ?_
  refine mi_wp_p (pc' := 30) rfl rfl rfl ?_
  refine mi_wp_p (pc' := 939) rfl rfl (mi_br2 (b := true) (t := 939) (by decide +kernel) rfl) ?_
  refine mi_wp_p (pc' := 940) rfl rfl rfl ?_
  exact mi_wp_r rfl rfl rfl rfl ⟨_, _, _, rfl, by omega, by omega⟩
set_option maxRecDepth 100000 in
theorem mi_L_writeAt {xs : Nat → Int32} {h : mi_H} {c s : Nat} {x1 : Int32} (q1 : xs 1 = x1) (g0 : mi_fv h 0 10 5 = some (.ref 26)) (f0 : mi_fv h 26 6 7 = some (.int 0)) (r0 : mi_fv h 55 11 0 = some (.int 0)) (r1 : mi_fv h 55 11 52 = some (.int 0))  : mi_wp (some (6, xs)) 21 mi_ML 474 [(4, .int (Int32.ofInt 0)), (3, .ref 98), (2, .ref 55), (1, .ref 0), (0, .retAddr 3)] [] h c s (fun z => ∃ h' c' s', z = (.inl (some (.int (Int32.ofInt 1))), h', c', s') ∧ c' ≤ c + 5000 ∧ s' ≤ s + 50000) := by
  refine mi_wp_p (pc' := 475) rfl rfl rfl ?_
  refine mi_wp_p (pc' := 476) rfl rfl rfl ?_
  refine mi_wp_p (pc' := 478) rfl rfl rfl ?_
  refine mi_wp_p (pc' := 479) rfl rfl rfl ?_
  refine mi_wp_p (pc' := 480) rfl rfl rfl ?_
  refine mi_wp_sld rfl rfl (by decide +kernel) (k := 1) (by decide +kernel) q1 ?_
  refine mi_wp_p (pc' := 482) rfl rfl rfl ?_
  refine mi_wp_c1 rfl rfl rfl rfl rfl rfl (mi_cal_s (np := 3) rfl rfl (Or.inr rfl) rfl (Nat.le_of_ble_eq_true rfl) (Nat.le_of_ble_eq_true rfl)) (Nat.le_of_ble_eq_true rfl) (mi_l_writeAt g0 f0) ?_
  refine mi_wp_p (pc' := 487) rfl rfl rfl ?_
  refine mi_wp_p (pc' := 488) rfl rfl rfl ?_
  refine mi_wp_p (pc' := 489) rfl rfl rfl ?_
  refine mi_wp_p (pc' := 491) rfl rfl rfl ?_
  refine mi_wp_p (pc' := 492) rfl rfl rfl ?_
  refine mi_wp_p (pc' := 493) rfl rfl rfl ?_
  refine mi_wp_sld rfl rfl (by decide +kernel) (k := 1) (by decide +kernel) q1 ?_
  refine mi_wp_ce rfl rfl rfl rfl rfl rfl (mi_cal_v (np := 1) rfl rfl rfl rfl (Nat.le_of_ble_eq_true rfl) (Nat.le_of_ble_eq_true rfl) (mi_rc_of r0)) (Nat.le_of_ble_eq_true rfl) (mi_r_writeAt r0 r1) ?_
  intro h9 q9
  obtain ⟨w, r0, rfl⟩ := q9
  refine mi_wp_p (pc' := 499) rfl rfl rfl ?_
  refine mi_wp_p (pc' := 500) rfl rfl rfl ?_
  refine mi_wp_c1 rfl rfl rfl rfl rfl rfl (mi_cal_v (np := 0) rfl rfl rfl rfl (Nat.le_of_ble_eq_true rfl) (Nat.le_of_ble_eq_true rfl) (mi_rc_of r0)) (Nat.le_of_ble_eq_true rfl) (mi_r_thrown r0) ?_
  refine mi_wp_p (pc' := 505) rfl rfl rfl ?_
  refine mi_wp_p (pc' := 510) rfl rfl (mi_br2 (b := true) (t := 510) (by decide +kernel) rfl) ?_
  refine mi_wp_p (pc' := 512) rfl rfl rfl ?_
  refine mi_wp_p (pc' := 527) rfl rfl (mi_br1 (b := true) (t := 527) (by decide +kernel) rfl) ?_
  refine mi_wp_p (pc' := 933) rfl rfl rfl ?_
  refine mi_wp_p (pc' := 936) rfl rfl rfl ?_
  refine mi_wp_p (pc' := 23) rfl rfl rfl ?_
  refine mi_wp_p (pc' := 25) rfl rfl rfl ?_
  refine mi_wp_p (pc' := 26) rfl rfl rfl ?_
  refine mi_wp_slen rfl rfl ?_
  refine mi_wp_p (pc' := 29) rfl rfl rfl ?_
  refine mi_wp_p (pc' := 30) rfl rfl rfl ?_
  refine mi_wp_p (pc' := 939) rfl rfl (mi_br2 (b := true) (t := 939) (by decide +kernel) rfl) ?_
  refine mi_wp_p (pc' := 940) rfl rfl rfl ?_
  exact mi_wp_r rfl rfl rfl rfl ⟨_, _, _, rfl, by omega, by omega⟩
set_option maxRecDepth 100000 in
theorem mi_L_byteAt {xs : Nat → Int32} {h : mi_H} {c s : Nat} {x1 : Int32} (q1 : xs 1 = x1) (g0 : mi_fv h 0 10 9 = some (.ref 52)) (f0 : mi_fv h 52 9 5 = some (.int 0)) (r0 : mi_fv h 55 11 0 = some (.int 0)) (r1 : mi_fv h 55 11 9 = some (.int 0))  : mi_wp (some (6, xs)) 21 mi_ML 530 [(4, .int (Int32.ofInt 0)), (3, .ref 98), (2, .ref 55), (1, .ref 0), (0, .retAddr 3)] [] h c s (fun z => ∃ h' c' s', z = (.inl (some (.int (Int32.ofInt 1))), h', c', s') ∧ c' ≤ c + 5000 ∧ s' ≤ s + 50000) := by
  refine mi_wp_p (pc' := 531) rfl rfl rfl ?_
  refine mi_wp_p (pc' := 532) rfl rfl rfl ?_
  refine mi_wp_p (pc' := 534) rfl rfl rfl ?_
  refine mi_wp_p (pc' := 535) rfl rfl rfl ?_
  refine mi_wp_p (pc' := 536) rfl rfl rfl ?_
  refine mi_wp_sld rfl rfl (by decide +kernel) (k := 1) (by decide +kernel) q1 ?_
  refine mi_wp_p (pc' := 538) rfl rfl rfl ?_
  refine mi_wp_c1 rfl rfl rfl rfl rfl rfl (mi_cal_s (np := 3) rfl rfl (Or.inr rfl) rfl (Nat.le_of_ble_eq_true rfl) (Nat.le_of_ble_eq_true rfl)) (Nat.le_of_ble_eq_true rfl) (mi_l_byteAt g0 f0) ?_
  refine mi_wp_p (pc' := 543) rfl rfl rfl ?_
  refine mi_wp_p (pc' := 544) rfl rfl rfl ?_
  refine mi_wp_p (pc' := 545) rfl rfl rfl ?_
  refine mi_wp_p (pc' := 547) rfl rfl rfl ?_
  refine mi_wp_p (pc' := 548) rfl rfl rfl ?_
  refine mi_wp_p (pc' := 549) rfl rfl rfl ?_
  refine mi_wp_sld rfl rfl (by decide +kernel) (k := 1) (by decide +kernel) q1 ?_
  refine mi_wp_ce rfl rfl rfl rfl rfl rfl (mi_cal_v (np := 1) rfl rfl rfl rfl (Nat.le_of_ble_eq_true rfl) (Nat.le_of_ble_eq_true rfl) (mi_rc_of r0)) (Nat.le_of_ble_eq_true rfl) (mi_r_byteAt r0 r1) ?_
  intro h9 q9
  obtain ⟨w, r0, rfl⟩ := q9
  refine mi_wp_p (pc' := 555) rfl rfl rfl ?_
  refine mi_wp_p (pc' := 556) rfl rfl rfl ?_
  refine mi_wp_c1 rfl rfl rfl rfl rfl rfl (mi_cal_v (np := 0) rfl rfl rfl rfl (Nat.le_of_ble_eq_true rfl) (Nat.le_of_ble_eq_true rfl) (mi_rc_of r0)) (Nat.le_of_ble_eq_true rfl) (mi_r_thrown r0) ?_
  refine mi_wp_p (pc' := 561) rfl rfl rfl ?_
  refine mi_wp_p (pc' := 566) rfl rfl (mi_br2 (b := true) (t := 566) (by decide +kernel) rfl) ?_
  refine mi_wp_p (pc' := 568) rfl rfl rfl ?_
  refine mi_wp_p (pc' := 583) rfl rfl (mi_br1 (b := true) (t := 583) (by decide +kernel) rfl) ?_
  refine mi_wp_p (pc' := 933) rfl rfl rfl ?_
  refine mi_wp_p (pc' := 936) rfl rfl rfl ?_
  refine mi_wp_p (pc' := 23) rfl rfl rfl ?_
  refine mi_wp_p (pc' := 25) rfl rfl rfl ?_
  refine mi_wp_p (pc' := 26) rfl rfl rfl ?_
  refine mi_wp_slen rfl rfl ?_
  refine mi_wp_p (pc' := 29) rfl rfl rfl ?_
  refine mi_wp_p (pc' := 30) rfl rfl rfl ?_
  refine mi_wp_p (pc' := 939) rfl rfl (mi_br2 (b := true) (t := 939) (by decide +kernel) rfl) ?_
  refine mi_wp_p (pc' := 940) rfl rfl rfl ?_
  exact mi_wp_r rfl rfl rfl rfl ⟨_, _, _, rfl, by omega, by omega⟩
set_option maxRecDepth 100000 in
theorem mi_L_measure {xs : Nat → Int32} {h : mi_H} {c s : Nat} {x1 x2 : Int32} (q1 : xs 1 = x1) (q2 : xs 2 = x2) (g0 : mi_fv h 0 10 4 = some (.ref 17)) (f0 : mi_fv h 17 3 14 = some (.int 0)) (r0 : mi_fv h 55 11 0 = some (.int 0)) (r1 : mi_fv h 55 11 34 = some (.int 0))  : mi_wp (some (6, xs)) 21 mi_ML 586 [(4, .int (Int32.ofInt 0)), (3, .ref 98), (2, .ref 55), (1, .ref 0), (0, .retAddr 3)] [] h c s (fun z => ∃ h' c' s', z = (.inl (some (.int (Int32.ofInt 1))), h', c', s') ∧ c' ≤ c + 5000 ∧ s' ≤ s + 50000) := by
  refine mi_wp_p (pc' := 587) rfl rfl rfl ?_
  refine mi_wp_p (pc' := 588) rfl rfl rfl ?_
  refine mi_wp_p (pc' := 590) rfl rfl rfl ?_
  refine mi_wp_p (pc' := 591) rfl rfl rfl ?_
  refine mi_wp_p (pc' := 592) rfl rfl rfl ?_
  refine mi_wp_sld rfl rfl (by decide +kernel) (k := 1) (by decide +kernel) q1 ?_
  refine mi_wp_p (pc' := 594) rfl rfl rfl ?_
  refine mi_wp_p (pc' := 596) rfl rfl rfl ?_
  refine mi_wp_p (pc' := 597) rfl rfl rfl ?_
  refine mi_wp_p (pc' := 598) rfl rfl rfl ?_
  refine mi_wp_sld rfl rfl (by decide +kernel) (k := 2) (by decide +kernel) q2 ?_
  refine mi_wp_p (pc' := 600) rfl rfl rfl ?_
  refine mi_wp_c1 rfl rfl rfl rfl rfl rfl (mi_cal_s (np := 4) rfl rfl (Or.inr rfl) rfl (Nat.le_of_ble_eq_true rfl) (Nat.le_of_ble_eq_true rfl)) (Nat.le_of_ble_eq_true rfl) (mi_l_measure g0 f0) ?_
  refine mi_wp_p (pc' := 605) rfl rfl rfl ?_
  refine mi_wp_p (pc' := 606) rfl rfl rfl ?_
  refine mi_wp_p (pc' := 607) rfl rfl rfl ?_
  refine mi_wp_p (pc' := 609) rfl rfl rfl ?_
  refine mi_wp_p (pc' := 610) rfl rfl rfl ?_
  refine mi_wp_p (pc' := 611) rfl rfl rfl ?_
  refine mi_wp_sld rfl rfl (by decide +kernel) (k := 1) (by decide +kernel) q1 ?_
  refine mi_wp_p (pc' := 613) rfl rfl rfl ?_
  refine mi_wp_p (pc' := 615) rfl rfl rfl ?_
  refine mi_wp_p (pc' := 616) rfl rfl rfl ?_
  refine mi_wp_p (pc' := 617) rfl rfl rfl ?_
  refine mi_wp_sld rfl rfl (by decide +kernel) (k := 2) (by decide +kernel) q2 ?_
  refine mi_wp_ce rfl rfl rfl rfl rfl rfl (mi_cal_v (np := 2) rfl rfl rfl rfl (Nat.le_of_ble_eq_true rfl) (Nat.le_of_ble_eq_true rfl) (mi_rc_of r0)) (Nat.le_of_ble_eq_true rfl) (mi_r_measure r0 r1) ?_
  intro h9 q9
  obtain ⟨w, r0, rfl⟩ := q9
  refine mi_wp_p (pc' := 623) rfl rfl rfl ?_
  refine mi_wp_p (pc' := 624) rfl rfl rfl ?_
  refine mi_wp_c1 rfl rfl rfl rfl rfl rfl (mi_cal_v (np := 0) rfl rfl rfl rfl (Nat.le_of_ble_eq_true rfl) (Nat.le_of_ble_eq_true rfl) (mi_rc_of r0)) (Nat.le_of_ble_eq_true rfl) (mi_r_thrown r0) ?_
  refine mi_wp_p (pc' := 629) rfl rfl rfl ?_
  refine mi_wp_p (pc' := 634) rfl rfl (mi_br2 (b := true) (t := 634) (by decide +kernel) rfl) ?_
  refine mi_wp_p (pc' := 636) rfl rfl rfl ?_
  refine mi_wp_p (pc' := 651) rfl rfl (mi_br1 (b := true) (t := 651) (by decide +kernel) rfl) ?_
  refine mi_wp_p (pc' := 933) rfl rfl rfl ?_
  refine mi_wp_p (pc' := 936) rfl rfl rfl ?_
  refine mi_wp_p (pc' := 23) rfl rfl rfl ?_
  refine mi_wp_p (pc' := 25) rfl rfl rfl ?_
  refine mi_wp_p (pc' := 26) rfl rfl rfl ?_
  refine mi_wp_slen rfl rfl ?_
  refine mi_wp_p (pc' := 29) rfl rfl rfl ?_
  refine mi_wp_p (pc' := 30) rfl rfl rfl ?_
  refine mi_wp_p (pc' := 939) rfl rfl (mi_br2 (b := true) (t := 939) (by decide +kernel) rfl) ?_
  refine mi_wp_p (pc' := 940) rfl rfl rfl ?_
  exact mi_wp_r rfl rfl rfl rfl ⟨_, _, _, rfl, by omega, by omega⟩
set_option maxRecDepth 100000 in
theorem mi_L_uses {xs : Nat → Int32} {h : mi_H} {c s : Nat} {x1 x2 : Int32} (q1 : xs 1 = x1) (q2 : xs 2 = x2) (g0 : mi_fv h 0 10 4 = some (.ref 17)) (f0 : mi_fv h 17 3 14 = some (.int 0)) (r0 : mi_fv h 55 11 0 = some (.int 0)) (r1 : mi_fv h 55 11 34 = some (.int 0))  : mi_wp (some (6, xs)) 21 mi_ML 654 [(4, .int (Int32.ofInt 0)), (3, .ref 98), (2, .ref 55), (1, .ref 0), (0, .retAddr 3)] [] h c s (fun z => ∃ h' c' s', z = (.inl (some (.int (Int32.ofInt 1))), h', c', s') ∧ c' ≤ c + 5000 ∧ s' ≤ s + 50000) := by
  refine mi_wp_p (pc' := 655) rfl rfl rfl ?_
  refine mi_wp_p (pc' := 656) rfl rfl rfl ?_
  refine mi_wp_p (pc' := 658) rfl rfl rfl ?_
  refine mi_wp_p (pc' := 659) rfl rfl rfl ?_
  refine mi_wp_p (pc' := 660) rfl rfl rfl ?_
  refine mi_wp_sld rfl rfl (by decide +kernel) (k := 1) (by decide +kernel) q1 ?_
  refine mi_wp_p (pc' := 662) rfl rfl rfl ?_
  refine mi_wp_p (pc' := 664) rfl rfl rfl ?_
  refine mi_wp_p (pc' := 665) rfl rfl rfl ?_
  refine mi_wp_p (pc' := 666) rfl rfl rfl ?_
  refine mi_wp_sld rfl rfl (by decide +kernel) (k := 2) (by decide +kernel) q2 ?_
  refine mi_wp_p (pc' := 668) rfl rfl rfl ?_
  refine mi_wp_c1 rfl rfl rfl rfl rfl rfl (mi_cal_s (np := 4) rfl rfl (Or.inr rfl) rfl (Nat.le_of_ble_eq_true rfl) (Nat.le_of_ble_eq_true rfl)) (Nat.le_of_ble_eq_true rfl) (mi_l_uses g0 f0) ?_
  refine mi_wp_p (pc' := 673) rfl rfl rfl ?_
  refine mi_wp_p (pc' := 674) rfl rfl rfl ?_
  refine mi_wp_p (pc' := 675) rfl rfl rfl ?_
  refine mi_wp_p (pc' := 677) rfl rfl rfl ?_
  refine mi_wp_p (pc' := 678) rfl rfl rfl ?_
  refine mi_wp_p (pc' := 679) rfl rfl rfl ?_
  refine mi_wp_sld rfl rfl (by decide +kernel) (k := 1) (by decide +kernel) q1 ?_
  refine mi_wp_p (pc' := 681) rfl rfl rfl ?_
  refine mi_wp_p (pc' := 683) rfl rfl rfl ?_
  refine mi_wp_p (pc' := 684) rfl rfl rfl ?_
  refine mi_wp_p (pc' := 685) rfl rfl rfl ?_
  refine mi_wp_sld rfl rfl (by decide +kernel) (k := 2) (by decide +kernel) q2 ?_
  refine mi_wp_ce rfl rfl rfl rfl rfl rfl (mi_cal_v (np := 2) rfl rfl rfl rfl (Nat.le_of_ble_eq_true rfl) (Nat.le_of_ble_eq_true rfl) (mi_rc_of r0)) (Nat.le_of_ble_eq_true rfl) (mi_r_uses r0 r1) ?_
  intro h9 q9
  obtain ⟨w, r0, rfl⟩ := q9
  refine mi_wp_p (pc' := 691) rfl rfl rfl ?_
  refine mi_wp_p (pc' := 692) rfl rfl rfl ?_
  refine mi_wp_c1 rfl rfl rfl rfl rfl rfl (mi_cal_v (np := 0) rfl rfl rfl rfl (Nat.le_of_ble_eq_true rfl) (Nat.le_of_ble_eq_true rfl) (mi_rc_of r0)) (Nat.le_of_ble_eq_true rfl) (mi_r_thrown r0) ?_
  refine mi_wp_p (pc' := 697) rfl rfl rfl ?_
  refine mi_wp_p (pc' := 702) rfl rfl (mi_br2 (b := true) (t := 702) (by decide +kernel) rfl) ?_
  refine mi_wp_p (pc' := 704) rfl rfl rfl ?_
  refine mi_wp_p (pc' := 719) rfl rfl (mi_br1 (b := true) (t := 719) (by decide +kernel) rfl) ?_
  refine mi_wp_p (pc' := 933) rfl rfl rfl ?_
  refine mi_wp_p (pc' := 936) rfl rfl rfl ?_
  refine mi_wp_p (pc' := 23) rfl rfl rfl ?_
  refine mi_wp_p (pc' := 25) rfl rfl rfl ?_
  refine mi_wp_p (pc' := 26) rfl rfl rfl ?_
  refine mi_wp_slen rfl rfl ?_
  refine mi_wp_p (pc' := 29) rfl rfl rfl ?_
  refine mi_wp_p (pc' := 30) rfl rfl rfl ?_
  refine mi_wp_p (pc' := 939) rfl rfl (mi_br2 (b := true) (t := 939) (by decide +kernel) rfl) ?_
  refine mi_wp_p (pc' := 940) rfl rfl rfl ?_
  exact mi_wp_r rfl rfl rfl rfl ⟨_, _, _, rfl, by omega, by omega⟩
set_option maxRecDepth 100000 in
theorem mi_L_covers {xs : Nat → Int32} {h : mi_H} {c s : Nat} {x1 x2 : Int32} (q1 : xs 1 = x1) (q2 : xs 2 = x2) (g0 : mi_fv h 0 10 4 = some (.ref 17)) (f0 : mi_fv h 17 3 14 = some (.int 0)) (r0 : mi_fv h 55 11 0 = some (.int 0)) (r1 : mi_fv h 55 11 34 = some (.int 0))  : mi_wp (some (6, xs)) 21 mi_ML 722 [(4, .int (Int32.ofInt 0)), (3, .ref 98), (2, .ref 55), (1, .ref 0), (0, .retAddr 3)] [] h c s (fun z => ∃ h' c' s', z = (.inl (some (.int (Int32.ofInt 1))), h', c', s') ∧ c' ≤ c + 5000 ∧ s' ≤ s + 50000) := by
  refine mi_wp_p (pc' := 723) rfl rfl rfl ?_
  refine mi_wp_p (pc' := 724) rfl rfl rfl ?_
  refine mi_wp_p (pc' := 726) rfl rfl rfl ?_
  refine mi_wp_p (pc' := 727) rfl rfl rfl ?_
  refine mi_wp_p (pc' := 728) rfl rfl rfl ?_
  refine mi_wp_sld rfl rfl (by decide +kernel) (k := 1) (by decide +kernel) q1 ?_
  refine mi_wp_p (pc' := 730) rfl rfl rfl ?_
  refine mi_wp_p (pc' := 732) rfl rfl rfl ?_
  refine mi_wp_p (pc' := 733) rfl rfl rfl ?_
  refine mi_wp_p (pc' := 734) rfl rfl rfl ?_
  refine mi_wp_sld rfl rfl (by decide +kernel) (k := 2) (by decide +kernel) q2 ?_
  refine mi_wp_p (pc' := 736) rfl rfl rfl ?_
  refine mi_wp_c1 rfl rfl rfl rfl rfl rfl (mi_cal_s (np := 4) rfl rfl (Or.inr rfl) rfl (Nat.le_of_ble_eq_true rfl) (Nat.le_of_ble_eq_true rfl)) (Nat.le_of_ble_eq_true rfl) (mi_l_covers g0 f0) ?_
  refine mi_wp_p (pc' := 741) rfl rfl rfl ?_
  refine mi_wp_p (pc' := 742) rfl rfl rfl ?_
  refine mi_wp_p (pc' := 743) rfl rfl rfl ?_
  refine mi_wp_p (pc' := 745) rfl rfl rfl ?_
  refine mi_wp_p (pc' := 746) rfl rfl rfl ?_
  refine mi_wp_p (pc' := 747) rfl rfl rfl ?_
  refine mi_wp_sld rfl rfl (by decide +kernel) (k := 1) (by decide +kernel) q1 ?_
  refine mi_wp_p (pc' := 749) rfl rfl rfl ?_
  refine mi_wp_p (pc' := 751) rfl rfl rfl ?_
  refine mi_wp_p (pc' := 752) rfl rfl rfl ?_
  refine mi_wp_p (pc' := 753) rfl rfl rfl ?_
  refine mi_wp_sld rfl rfl (by decide +kernel) (k := 2) (by decide +kernel) q2 ?_
  refine mi_wp_ce rfl rfl rfl rfl rfl rfl (mi_cal_v (np := 2) rfl rfl rfl rfl (Nat.le_of_ble_eq_true rfl) (Nat.le_of_ble_eq_true rfl) (mi_rc_of r0)) (Nat.le_of_ble_eq_true rfl) (mi_r_covers r0 r1) ?_
  intro h9 q9
  obtain ⟨w, r0, rfl⟩ := q9
  refine mi_wp_p (pc' := 759) rfl rfl rfl ?_
  refine mi_wp_p (pc' := 760) rfl rfl rfl ?_
  refine mi_wp_c1 rfl rfl rfl rfl rfl rfl (mi_cal_v (np := 0) rfl rfl rfl rfl (Nat.le_of_ble_eq_true rfl) (Nat.le_of_ble_eq_true rfl) (mi_rc_of r0)) (Nat.le_of_ble_eq_true rfl) (mi_r_thrown r0) ?_
  refine mi_wp_p (pc' := 765) rfl rfl rfl ?_
  refine mi_wp_p (pc' := 770) rfl rfl (mi_br2 (b := true) (t := 770) (by decide +kernel) rfl) ?_
  refine mi_wp_p (pc' := 772) rfl rfl rfl ?_
  refine mi_wp_p (pc' := 794) rfl rfl (mi_br1 (b := true) (t := 794) (by decide +kernel) rfl) ?_
  refine mi_wp_p (pc' := 933) rfl rfl rfl ?_
  refine mi_wp_p (pc' := 936) rfl rfl rfl ?_
  refine mi_wp_p (pc' := 23) rfl rfl rfl ?_
  refine mi_wp_p (pc' := 25) rfl rfl rfl ?_
  refine mi_wp_p (pc' := 26) rfl rfl rfl ?_
  refine mi_wp_slen rfl rfl ?_
  refine mi_wp_p (pc' := 29) rfl rfl rfl ?_
  refine mi_wp_p (pc' := 30) rfl rfl rfl ?_
  refine mi_wp_p (pc' := 939) rfl rfl (mi_br2 (b := true) (t := 939) (by decide +kernel) rfl) ?_
  refine mi_wp_p (pc' := 940) rfl rfl rfl ?_
  exact mi_wp_r rfl rfl rfl rfl ⟨_, _, _, rfl, by omega, by omega⟩
set_option maxRecDepth 100000 in
theorem mi_L_meet {xs : Nat → Int32} {h : mi_H} {c s : Nat} {x1 x2 : Int32} (q1 : xs 1 = x1) (q2 : xs 2 = x2) (g0 : mi_fv h 0 10 4 = some (.ref 17)) (f0 : mi_fv h 17 3 14 = some (.int 0)) (r0 : mi_fv h 55 11 0 = some (.int 0)) (r1 : mi_fv h 55 11 34 = some (.int 0))  : mi_wp (some (6, xs)) 21 mi_ML 797 [(4, .int (Int32.ofInt 0)), (3, .ref 98), (2, .ref 55), (1, .ref 0), (0, .retAddr 3)] [] h c s (fun z => ∃ h' c' s', z = (.inl (some (.int (Int32.ofInt 1))), h', c', s') ∧ c' ≤ c + 5000 ∧ s' ≤ s + 50000) := by
  refine mi_wp_p (pc' := 798) rfl rfl rfl ?_
  refine mi_wp_p (pc' := 799) rfl rfl rfl ?_
  refine mi_wp_p (pc' := 801) rfl rfl rfl ?_
  refine mi_wp_p (pc' := 802) rfl rfl rfl ?_
  refine mi_wp_p (pc' := 803) rfl rfl rfl ?_
  refine mi_wp_sld rfl rfl (by decide +kernel) (k := 1) (by decide +kernel) q1 ?_
  refine mi_wp_p (pc' := 805) rfl rfl rfl ?_
  refine mi_wp_p (pc' := 807) rfl rfl rfl ?_
  refine mi_wp_p (pc' := 808) rfl rfl rfl ?_
  refine mi_wp_p (pc' := 809) rfl rfl rfl ?_
  refine mi_wp_sld rfl rfl (by decide +kernel) (k := 2) (by decide +kernel) q2 ?_
  refine mi_wp_p (pc' := 811) rfl rfl rfl ?_
  refine mi_wp_c1 rfl rfl rfl rfl rfl rfl (mi_cal_s (np := 4) rfl rfl (Or.inr rfl) rfl (Nat.le_of_ble_eq_true rfl) (Nat.le_of_ble_eq_true rfl)) (Nat.le_of_ble_eq_true rfl) (mi_l_meet g0 f0) ?_
  refine mi_wp_p (pc' := 816) rfl rfl rfl ?_
  refine mi_wp_p (pc' := 817) rfl rfl rfl ?_
  refine mi_wp_p (pc' := 818) rfl rfl rfl ?_
  refine mi_wp_p (pc' := 820) rfl rfl rfl ?_
  refine mi_wp_p (pc' := 821) rfl rfl rfl ?_
  refine mi_wp_p (pc' := 822) rfl rfl rfl ?_
  refine mi_wp_sld rfl rfl (by decide +kernel) (k := 1) (by decide +kernel) q1 ?_
  refine mi_wp_p (pc' := 824) rfl rfl rfl ?_
  refine mi_wp_p (pc' := 826) rfl rfl rfl ?_
  refine mi_wp_p (pc' := 827) rfl rfl rfl ?_
  refine mi_wp_p (pc' := 828) rfl rfl rfl ?_
  refine mi_wp_sld rfl rfl (by decide +kernel) (k := 2) (by decide +kernel) q2 ?_
  refine mi_wp_ce rfl rfl rfl rfl rfl rfl (mi_cal_v (np := 2) rfl rfl rfl rfl (Nat.le_of_ble_eq_true rfl) (Nat.le_of_ble_eq_true rfl) (mi_rc_of r0)) (Nat.le_of_ble_eq_true rfl) (mi_r_meet r0 r1) ?_
  intro h9 q9
  obtain ⟨w, r0, rfl⟩ := q9
  refine mi_wp_p (pc' := 834) rfl rfl rfl ?_
  refine mi_wp_p (pc' := 835) rfl rfl rfl ?_
  refine mi_wp_c1 rfl rfl rfl rfl rfl rfl (mi_cal_v (np := 0) rfl rfl rfl rfl (Nat.le_of_ble_eq_true rfl) (Nat.le_of_ble_eq_true rfl) (mi_rc_of r0)) (Nat.le_of_ble_eq_true rfl) (mi_r_thrown r0) ?_
  refine mi_wp_p (pc' := 840) rfl rfl rfl ?_
  refine mi_wp_p (pc' := 845) rfl rfl (mi_br2 (b := true) (t := 845) (by decide +kernel) rfl) ?_
  refine mi_wp_p (pc' := 847) rfl rfl rfl ?_
  refine mi_wp_p (pc' := 862) rfl rfl (mi_br1 (b := true) (t := 862) (by decide +kernel) rfl) ?_
  refine mi_wp_p (pc' := 933) rfl rfl rfl ?_
  refine mi_wp_p (pc' := 936) rfl rfl rfl ?_
  refine mi_wp_p (pc' := 23) rfl rfl rfl ?_
  refine mi_wp_p (pc' := 25) rfl rfl rfl ?_
  refine mi_wp_p (pc' := 26) rfl rfl rfl ?_
  refine mi_wp_slen rfl rfl ?_
  refine mi_wp_p (pc' := 29) rfl rfl rfl ?_
  refine mi_wp_p (pc' := 30) rfl rfl rfl ?_
  refine mi_wp_p (pc' := 939) rfl rfl (mi_br2 (b := true) (t := 939) (by decide +kernel) rfl) ?_
  refine mi_wp_p (pc' := 940) rfl rfl rfl ?_
  exact mi_wp_r rfl rfl rfl rfl ⟨_, _, _, rfl, by omega, by omega⟩
set_option maxRecDepth 100000 in
theorem mi_L_trim {xs : Nat → Int32} {h : mi_H} {c s : Nat} {x1 : Int32} (q1 : xs 1 = x1) (f0 : mi_fv h 0 10 10 = some (.int 0)) (r0 : mi_fv h 55 11 0 = some (.int 0)) (r1 : mi_fv h 55 11 2 = some (.int 0)) (hne : x1 ≠ 0) : mi_wp (some (6, xs)) 21 mi_ML 224 [(4, .int (Int32.ofInt 0)), (3, .ref 98), (2, .ref 55), (1, .ref 0), (0, .retAddr 3)] [] h c s (fun z => ∃ h' c' s', z = (.inl (some (.int (Int32.ofInt 1))), h', c', s') ∧ c' ≤ c + 5000 ∧ s' ≤ s + 50000) := by
  refine mi_wp_p (pc' := 225) rfl rfl rfl ?_
  refine mi_wp_p (pc' := 226) rfl rfl rfl ?_
  refine mi_wp_p (pc' := 228) rfl rfl rfl ?_
  refine mi_wp_p (pc' := 229) rfl rfl rfl ?_
  refine mi_wp_p (pc' := 230) rfl rfl rfl ?_
  refine mi_wp_sld rfl rfl (by decide +kernel) (k := 1) (by decide +kernel) q1 ?_
  refine mi_wp_p (pc' := 232) rfl rfl rfl ?_
  refine mi_wp_c1 rfl rfl rfl rfl rfl rfl (mi_cal_s (np := 3) rfl rfl (Or.inr rfl) rfl (Nat.le_of_ble_eq_true rfl) (Nat.le_of_ble_eq_true rfl)) (Nat.le_of_ble_eq_true rfl) (mi_l_trim f0 hne) ?_
  refine mi_wp_p (pc' := 237) rfl rfl rfl ?_
  refine mi_wp_p (pc' := 238) rfl rfl rfl ?_
  refine mi_wp_p (pc' := 239) rfl rfl rfl ?_
  refine mi_wp_p (pc' := 241) rfl rfl rfl ?_
  refine mi_wp_p (pc' := 242) rfl rfl rfl ?_
  refine mi_wp_p (pc' := 243) rfl rfl rfl ?_
  refine mi_wp_sld rfl rfl (by decide +kernel) (k := 1) (by decide +kernel) q1 ?_
  refine mi_wp_ce rfl rfl rfl rfl rfl rfl (mi_cal_v (np := 1) rfl rfl rfl rfl (Nat.le_of_ble_eq_true rfl) (Nat.le_of_ble_eq_true rfl) (mi_rc_of r0)) (Nat.le_of_ble_eq_true rfl) (mi_r_trim r0 r1 hne) ?_
  intro h9 q9
  obtain ⟨w, r0, rfl⟩ := q9
  refine mi_wp_p (pc' := 249) rfl rfl rfl ?_
  refine mi_wp_p (pc' := 250) rfl rfl rfl ?_
  refine mi_wp_c1 rfl rfl rfl rfl rfl rfl (mi_cal_v (np := 0) rfl rfl rfl rfl (Nat.le_of_ble_eq_true rfl) (Nat.le_of_ble_eq_true rfl) (mi_rc_of r0)) (Nat.le_of_ble_eq_true rfl) (mi_r_thrown r0) ?_
  refine mi_wp_p (pc' := 255) rfl rfl rfl ?_
  refine mi_wp_p (pc' := 260) rfl rfl (mi_br2 (b := true) (t := 260) (by decide +kernel) rfl) ?_
  refine mi_wp_p (pc' := 262) rfl rfl rfl ?_
  refine mi_wp_p (pc' := 277) rfl rfl (mi_br1 (b := true) (t := 277) (by decide +kernel) rfl) ?_
  refine mi_wp_p (pc' := 933) rfl rfl rfl ?_
  refine mi_wp_p (pc' := 936) rfl rfl rfl ?_
  refine mi_wp_p (pc' := 23) rfl rfl rfl ?_
  refine mi_wp_p (pc' := 25) rfl rfl rfl ?_
  refine mi_wp_p (pc' := 26) rfl rfl rfl ?_
  refine mi_wp_slen rfl rfl ?_
  refine mi_wp_p (pc' := 29) rfl rfl rfl ?_
  refine mi_wp_p (pc' := 30) rfl rfl rfl ?_
  refine mi_wp_p (pc' := 939) rfl rfl (mi_br2 (b := true) (t := 939) (by decide +kernel) rfl) ?_
  refine mi_wp_p (pc' := 940) rfl rfl rfl ?_
  exact mi_wp_r rfl rfl rfl rfl ⟨_, _, _, rfl, by omega, by omega⟩
set_option maxRecDepth 100000 in
theorem mi_L_count {xs : Nat → Int32} {h : mi_H} {c s : Nat} {x1 : Int32} (q1 : xs 1 = x1) (f0 : mi_fv h 0 10 10 = some (.int 0)) (r0 : mi_fv h 55 11 0 = some (.int 0)) (hx : x1 < 0 ∨ Int32.ofInt 5 ≤ x1) (hy : x1 < Int32.ofInt 0 ∨ Int32.ofInt 4 < x1) : mi_wp (some (6, xs)) 21 mi_ML 306 [(4, .int (Int32.ofInt 0)), (3, .ref 98), (2, .ref 55), (1, .ref 0), (0, .retAddr 3)] [] h c s (fun z => ∃ h' c' s', z = (.inl (some (.int (Int32.ofInt 1))), h', c', s') ∧ c' ≤ c + 5000 ∧ s' ≤ s + 50000) := by
  refine mi_wp_p (pc' := 307) rfl rfl rfl ?_
  refine mi_wp_p (pc' := 308) rfl rfl rfl ?_
  refine mi_wp_p (pc' := 310) rfl rfl rfl ?_
  refine mi_wp_p (pc' := 311) rfl rfl rfl ?_
  refine mi_wp_p (pc' := 312) rfl rfl rfl ?_
  refine mi_wp_sld rfl rfl (by decide +kernel) (k := 1) (by decide +kernel) q1 ?_
  refine mi_wp_p (pc' := 314) rfl rfl rfl ?_
  refine mi_wp_c1 rfl rfl rfl rfl rfl rfl (mi_cal_s (np := 3) rfl rfl (Or.inr rfl) rfl (Nat.le_of_ble_eq_true rfl) (Nat.le_of_ble_eq_true rfl)) (Nat.le_of_ble_eq_true rfl) (mi_l_count f0 hx) ?_
  refine mi_wp_p (pc' := 319) rfl rfl rfl ?_
  refine mi_wp_p (pc' := 320) rfl rfl rfl ?_
  refine mi_wp_p (pc' := 321) rfl rfl rfl ?_
  refine mi_wp_p (pc' := 323) rfl rfl rfl ?_
  refine mi_wp_p (pc' := 324) rfl rfl rfl ?_
  refine mi_wp_p (pc' := 325) rfl rfl rfl ?_
  refine mi_wp_sld rfl rfl (by decide +kernel) (k := 1) (by decide +kernel) q1 ?_
  refine mi_wp_ce rfl rfl rfl rfl rfl rfl (mi_cal_v (np := 1) rfl rfl rfl rfl (Nat.le_of_ble_eq_true rfl) (Nat.le_of_ble_eq_true rfl) (mi_rc_of r0)) (Nat.le_of_ble_eq_true rfl) (mi_r_count r0 hy) ?_
  intro h9 q9
  obtain ⟨w, r0, rfl⟩ := q9
  refine mi_wp_p (pc' := 331) rfl rfl rfl ?_
  refine mi_wp_p (pc' := 332) rfl rfl rfl ?_
  refine mi_wp_c1 rfl rfl rfl rfl rfl rfl (mi_cal_v (np := 0) rfl rfl rfl rfl (Nat.le_of_ble_eq_true rfl) (Nat.le_of_ble_eq_true rfl) (mi_rc_of r0)) (Nat.le_of_ble_eq_true rfl) (mi_r_thrown r0) ?_
  refine mi_wp_p (pc' := 337) rfl rfl rfl ?_
  refine mi_wp_p (pc' := 342) rfl rfl (mi_br2 (b := true) (t := 342) (by decide +kernel) rfl) ?_
  refine mi_wp_p (pc' := 344) rfl rfl rfl ?_
  refine mi_wp_p (pc' := 359) rfl rfl (mi_br1 (b := true) (t := 359) (by decide +kernel) rfl) ?_
  refine mi_wp_p (pc' := 933) rfl rfl rfl ?_
  refine mi_wp_p (pc' := 936) rfl rfl rfl ?_
  refine mi_wp_p (pc' := 23) rfl rfl rfl ?_
  refine mi_wp_p (pc' := 25) rfl rfl rfl ?_
  refine mi_wp_p (pc' := 26) rfl rfl rfl ?_
  refine mi_wp_slen rfl rfl ?_
  refine mi_wp_p (pc' := 29) rfl rfl rfl ?_
  refine mi_wp_p (pc' := 30) rfl rfl rfl ?_
  refine mi_wp_p (pc' := 939) rfl rfl (mi_br2 (b := true) (t := 939) (by decide +kernel) rfl) ?_
  refine mi_wp_p (pc' := 940) rfl rfl rfl ?_
  exact mi_wp_r rfl rfl rfl rfl ⟨_, _, _, rfl, by omega, by omega⟩
set_option maxRecDepth 100000 in
theorem mi_L_trim0 {xs : Nat → Int32} {h : mi_H} {c s : Nat} {f : Nat → Int64} (f0 : mi_fv h 0 10 10 = some (.int 0)) (r0 : mi_fv h 55 11 0 = some (.int 0)) (r1 : mi_fv h 55 11 2 = some (.int 0)) (a1 : mi_al h 98 = some (1, f)) (q1 : xs 1 = 0) : mi_wp (some (6, xs)) 21 mi_ML 224 [(4, .int (Int32.ofInt 0)), (3, .ref 98), (2, .ref 55), (1, .ref 0), (0, .retAddr 3)] [] h c s (fun z => ∃ h' c' s', z = (.inl (some (.int (Int32.ofInt 1))), h', c', s') ∧ c' ≤ c + 5000 ∧ s' ≤ s + 50000) := by
  refine mi_wp_p (pc' := 225) rfl rfl rfl ?_
  refine mi_wp_p (pc' := 226) rfl rfl rfl ?_
  refine mi_wp_p (pc' := 228) rfl rfl rfl ?_
  refine mi_wp_p (pc' := 229) rfl rfl rfl ?_
  refine mi_wp_p (pc' := 230) rfl rfl rfl ?_
  refine mi_wp_sld rfl rfl (by decide +kernel) (k := 1) (by decide +kernel) q1 ?_
  refine mi_wp_p (pc' := 232) rfl rfl rfl ?_
  refine mi_wp_ce rfl rfl rfl rfl rfl rfl (mi_cal_s (np := 3) rfl rfl (Or.inr rfl) rfl (Nat.le_of_ble_eq_true rfl) (Nat.le_of_ble_eq_true rfl)) (Nat.le_of_ble_eq_true rfl) (mi_l_trim0 f0 r0 r1 a1) ?_
  intro h1 q9
  obtain ⟨r0, r1, f1, a1, g1⟩ := q9
  refine mi_wp_p (pc' := 237) rfl rfl rfl ?_
  refine mi_wp_p (pc' := 238) rfl rfl rfl ?_
  refine mi_wp_p (pc' := 239) rfl rfl rfl ?_
  refine mi_wp_p (pc' := 241) rfl rfl rfl ?_
  refine mi_wp_p (pc' := 242) rfl rfl rfl ?_
  refine mi_wp_p (pc' := 243) rfl rfl rfl ?_
  refine mi_wp_sld rfl rfl (by decide +kernel) (k := 1) (by decide +kernel) q1 ?_
  refine mi_wp_ce rfl rfl rfl rfl rfl rfl (mi_cal_v (np := 1) rfl rfl rfl rfl (Nat.le_of_ble_eq_true rfl) (Nat.le_of_ble_eq_true rfl) (mi_rc_of r0)) (Nat.le_of_ble_eq_true rfl) (mi_r_trim0 r0 r1 a1) ?_
  intro h2 q9
  obtain ⟨r0, a1⟩ := q9
  refine mi_wp_p (pc' := 249) rfl rfl rfl ?_
  refine mi_wp_p (pc' := 250) rfl rfl rfl ?_
  refine mi_wp_c1 rfl rfl rfl rfl rfl rfl (mi_cal_v (np := 0) rfl rfl rfl rfl (Nat.le_of_ble_eq_true rfl) (Nat.le_of_ble_eq_true rfl) (mi_rc_of r0)) (Nat.le_of_ble_eq_true rfl) (mi_r_thrown r0) ?_
  refine mi_wp_p (pc' := 255) rfl rfl rfl ?_
  refine mi_wp_p (pc' := 260) rfl rfl (mi_br2 (b := true) (t := 260) (by decide +kernel) rfl) ?_
  refine mi_wp_p (pc' := 262) rfl rfl rfl ?_
  refine mi_wp_p (pc' := 265) rfl rfl (mi_br1 (b := false) (t := 277) (by decide +kernel) rfl) ?_
  refine mi_wp_p (pc' := 266) rfl rfl rfl ?_
  refine mi_wp_p (pc' := 267) rfl rfl rfl ?_
  refine mi_wp_laldv rfl rfl a1 (by decide +kernel) (by decide +kernel) g1 ?_
  refine mi_wp_p (pc' := 270) rfl rfl rfl ?_
  refine mi_wp_p (pc' := 271) rfl rfl rfl ?_
  refine mi_wp_p (pc' := 272) rfl rfl rfl ?_
  refine mi_wp_p (pc' := 277) rfl rfl (mi_br1 (b := true) (t := 277) (by decide +kernel) rfl) ?_
  refine mi_wp_p (pc' := 933) rfl rfl rfl ?_
  refine mi_wp_p (pc' := 936) rfl rfl rfl ?_
  refine mi_wp_p (pc' := 23) rfl rfl rfl ?_
  refine mi_wp_p (pc' := 25) rfl rfl rfl ?_
  refine mi_wp_p (pc' := 26) rfl rfl rfl ?_
  refine mi_wp_slen rfl rfl ?_
  refine mi_wp_p (pc' := 29) rfl rfl rfl ?_
  refine mi_wp_p (pc' := 30) rfl rfl rfl ?_
  refine mi_wp_p (pc' := 939) rfl rfl (mi_br2 (b := true) (t := 939) (by decide +kernel) rfl) ?_
  refine mi_wp_p (pc' := 940) rfl rfl rfl ?_
  exact mi_wp_r rfl rfl rfl rfl ⟨_, _, _, rfl, by omega, by omega⟩
set_option maxRecDepth 100000 in
theorem mi_L_count0 {xs : Nat → Int32} {h : mi_H} {c s : Nat} {f : Nat → Int64} (g0 : mi_fv h 0 10 4 = some (.ref 17)) (f0 : mi_fv h 17 3 12 = some (.int 3)) (r0 : mi_fv h 55 11 0 = some (.int 0)) (r1 : mi_fv h 55 11 27 = some (.int 1)) (a1 : mi_al h 98 = some (1, f)) (q1 : xs 1 = 0) : mi_wp (some (6, xs)) 21 mi_ML 306 [(4, .int (Int32.ofInt 0)), (3, .ref 98), (2, .ref 55), (1, .ref 0), (0, .retAddr 3)] [] h c s (fun z => ∃ h' c' s', z = (.inl (some (.int (Int32.ofInt 1))), h', c', s') ∧ c' ≤ c + 5000 ∧ s' ≤ s + 50000) := by
  refine mi_wp_p (pc' := 307) rfl rfl rfl ?_
  refine mi_wp_p (pc' := 308) rfl rfl rfl ?_
  refine mi_wp_p (pc' := 310) rfl rfl rfl ?_
  refine mi_wp_p (pc' := 311) rfl rfl rfl ?_
  refine mi_wp_p (pc' := 312) rfl rfl rfl ?_
  refine mi_wp_sld rfl rfl (by decide +kernel) (k := 1) (by decide +kernel) q1 ?_
  refine mi_wp_p (pc' := 314) rfl rfl rfl ?_
  refine mi_wp_ce rfl rfl rfl rfl rfl rfl (mi_cal_s (np := 3) rfl rfl (Or.inr rfl) rfl (Nat.le_of_ble_eq_true rfl) (Nat.le_of_ble_eq_true rfl)) (Nat.le_of_ble_eq_true rfl) (mi_l_count0 g0 f0 r0 r1 a1) ?_
  intro h1 q9
  obtain ⟨r0, r1, f1, a1, g1⟩ := q9
  refine mi_wp_p (pc' := 319) rfl rfl rfl ?_
  refine mi_wp_p (pc' := 320) rfl rfl rfl ?_
  refine mi_wp_p (pc' := 321) rfl rfl rfl ?_
  refine mi_wp_p (pc' := 323) rfl rfl rfl ?_
  refine mi_wp_p (pc' := 324) rfl rfl rfl ?_
  refine mi_wp_p (pc' := 325) rfl rfl rfl ?_
  refine mi_wp_sld rfl rfl (by decide +kernel) (k := 1) (by decide +kernel) q1 ?_
  refine mi_wp_ce rfl rfl rfl rfl rfl rfl (mi_cal_v (np := 1) rfl rfl rfl rfl (Nat.le_of_ble_eq_true rfl) (Nat.le_of_ble_eq_true rfl) (mi_rc_of r0)) (Nat.le_of_ble_eq_true rfl) (mi_r_count0 r0 r1 a1) ?_
  intro h2 q9
  obtain ⟨r0, a1⟩ := q9
  refine mi_wp_p (pc' := 331) rfl rfl rfl ?_
  refine mi_wp_p (pc' := 332) rfl rfl rfl ?_
  refine mi_wp_c1 rfl rfl rfl rfl rfl rfl (mi_cal_v (np := 0) rfl rfl rfl rfl (Nat.le_of_ble_eq_true rfl) (Nat.le_of_ble_eq_true rfl) (mi_rc_of r0)) (Nat.le_of_ble_eq_true rfl) (mi_r_thrown r0) ?_
  refine mi_wp_p (pc' := 337) rfl rfl rfl ?_
  refine mi_wp_p (pc' := 342) rfl rfl (mi_br2 (b := true) (t := 342) (by decide +kernel) rfl) ?_
  refine mi_wp_p (pc' := 344) rfl rfl rfl ?_
  refine mi_wp_p (pc' := 347) rfl rfl (mi_br1 (b := false) (t := 359) (by decide +kernel) rfl) ?_
  refine mi_wp_p (pc' := 348) rfl rfl rfl ?_
  refine mi_wp_p (pc' := 349) rfl rfl rfl ?_
  refine mi_wp_laldv rfl rfl a1 (by decide +kernel) (by decide +kernel) g1 ?_
  refine mi_wp_p (pc' := 352) rfl rfl rfl ?_
  refine mi_wp_p (pc' := 353) rfl rfl rfl ?_
  refine mi_wp_p (pc' := 354) rfl rfl rfl ?_
  refine mi_wp_p (pc' := 359) rfl rfl (mi_br1 (b := true) (t := 359) (by decide +kernel) rfl) ?_
  refine mi_wp_p (pc' := 933) rfl rfl rfl ?_
  refine mi_wp_p (pc' := 936) rfl rfl rfl ?_
  refine mi_wp_p (pc' := 23) rfl rfl rfl ?_
  refine mi_wp_p (pc' := 25) rfl rfl rfl ?_
  refine mi_wp_p (pc' := 26) rfl rfl rfl ?_
  refine mi_wp_slen rfl rfl ?_
  refine mi_wp_p (pc' := 29) rfl rfl rfl ?_
  refine mi_wp_p (pc' := 30) rfl rfl rfl ?_
  refine mi_wp_p (pc' := 939) rfl rfl (mi_br2 (b := true) (t := 939) (by decide +kernel) rfl) ?_
  refine mi_wp_p (pc' := 940) rfl rfl rfl ?_
  exact mi_wp_r rfl rfl rfl rfl ⟨_, _, _, rfl, by omega, by omega⟩
set_option maxRecDepth 100000 in
theorem mi_L_count1 {xs : Nat → Int32} {h : mi_H} {c s : Nat} {f : Nat → Int64} (g0 : mi_fv h 0 10 4 = some (.ref 17)) (f0 : mi_fv h 17 3 13 = some (.int 2)) (r0 : mi_fv h 55 11 0 = some (.int 0)) (r1 : mi_fv h 55 11 30 = some (.int 2)) (a1 : mi_al h 98 = some (1, f)) (q1 : xs 1 = 1) : mi_wp (some (6, xs)) 21 mi_ML 306 [(4, .int (Int32.ofInt 0)), (3, .ref 98), (2, .ref 55), (1, .ref 0), (0, .retAddr 3)] [] h c s (fun z => ∃ h' c' s', z = (.inl (some (.int (Int32.ofInt 1))), h', c', s') ∧ c' ≤ c + 5000 ∧ s' ≤ s + 50000) := by
  refine mi_wp_p (pc' := 307) rfl rfl rfl ?_
  refine mi_wp_p (pc' := 308) rfl rfl rfl ?_
  refine mi_wp_p (pc' := 310) rfl rfl rfl ?_
  refine mi_wp_p (pc' := 311) rfl rfl rfl ?_
  refine mi_wp_p (pc' := 312) rfl rfl rfl ?_
  refine mi_wp_sld rfl rfl (by decide +kernel) (k := 1) (by decide +kernel) q1 ?_
  refine mi_wp_p (pc' := 314) rfl rfl rfl ?_
  refine mi_wp_ce rfl rfl rfl rfl rfl rfl (mi_cal_s (np := 3) rfl rfl (Or.inr rfl) rfl (Nat.le_of_ble_eq_true rfl) (Nat.le_of_ble_eq_true rfl)) (Nat.le_of_ble_eq_true rfl) (mi_l_count1 g0 f0 r0 r1 a1) ?_
  intro h1 q9
  obtain ⟨r0, r1, f1, a1, g1⟩ := q9
  refine mi_wp_p (pc' := 319) rfl rfl rfl ?_
  refine mi_wp_p (pc' := 320) rfl rfl rfl ?_
  refine mi_wp_p (pc' := 321) rfl rfl rfl ?_
  refine mi_wp_p (pc' := 323) rfl rfl rfl ?_
  refine mi_wp_p (pc' := 324) rfl rfl rfl ?_
  refine mi_wp_p (pc' := 325) rfl rfl rfl ?_
  refine mi_wp_sld rfl rfl (by decide +kernel) (k := 1) (by decide +kernel) q1 ?_
  refine mi_wp_ce rfl rfl rfl rfl rfl rfl (mi_cal_v (np := 1) rfl rfl rfl rfl (Nat.le_of_ble_eq_true rfl) (Nat.le_of_ble_eq_true rfl) (mi_rc_of r0)) (Nat.le_of_ble_eq_true rfl) (mi_r_count1 r0 r1 a1) ?_
  intro h2 q9
  obtain ⟨r0, a1⟩ := q9
  refine mi_wp_p (pc' := 331) rfl rfl rfl ?_
  refine mi_wp_p (pc' := 332) rfl rfl rfl ?_
  refine mi_wp_c1 rfl rfl rfl rfl rfl rfl (mi_cal_v (np := 0) rfl rfl rfl rfl (Nat.le_of_ble_eq_true rfl) (Nat.le_of_ble_eq_true rfl) (mi_rc_of r0)) (Nat.le_of_ble_eq_true rfl) (mi_r_thrown r0) ?_
  refine mi_wp_p (pc' := 337) rfl rfl rfl ?_
  refine mi_wp_p (pc' := 342) rfl rfl (mi_br2 (b := true) (t := 342) (by decide +kernel) rfl) ?_
  refine mi_wp_p (pc' := 344) rfl rfl rfl ?_
  refine mi_wp_p (pc' := 347) rfl rfl (mi_br1 (b := false) (t := 359) (by decide +kernel) rfl) ?_
  refine mi_wp_p (pc' := 348) rfl rfl rfl ?_
  refine mi_wp_p (pc' := 349) rfl rfl rfl ?_
  refine mi_wp_laldv rfl rfl a1 (by decide +kernel) (by decide +kernel) g1 ?_
  refine mi_wp_p (pc' := 352) rfl rfl rfl ?_
  refine mi_wp_p (pc' := 353) rfl rfl rfl ?_
  refine mi_wp_p (pc' := 354) rfl rfl rfl ?_
  refine mi_wp_p (pc' := 359) rfl rfl (mi_br1 (b := true) (t := 359) (by decide +kernel) rfl) ?_
  refine mi_wp_p (pc' := 933) rfl rfl rfl ?_
  refine mi_wp_p (pc' := 936) rfl rfl rfl ?_
  refine mi_wp_p (pc' := 23) rfl rfl rfl ?_
  refine mi_wp_p (pc' := 25) rfl rfl rfl ?_
  refine mi_wp_p (pc' := 26) rfl rfl rfl ?_
  refine mi_wp_slen rfl rfl ?_
  refine mi_wp_p (pc' := 29) rfl rfl rfl ?_
  refine mi_wp_p (pc' := 30) rfl rfl rfl ?_
  refine mi_wp_p (pc' := 939) rfl rfl (mi_br2 (b := true) (t := 939) (by decide +kernel) rfl) ?_
  refine mi_wp_p (pc' := 940) rfl rfl rfl ?_
  exact mi_wp_r rfl rfl rfl rfl ⟨_, _, _, rfl, by omega, by omega⟩
set_option maxRecDepth 100000 in
theorem mi_L_count2 {xs : Nat → Int32} {h : mi_H} {c s : Nat} {f : Nat → Int64} (g0 : mi_fv h 0 10 4 = some (.ref 17)) (f0 : mi_fv h 17 3 14 = some (.int 0)) (r0 : mi_fv h 55 11 0 = some (.int 0)) (r1 : mi_fv h 55 11 34 = some (.int 0)) (a1 : mi_al h 98 = some (1, f)) (q1 : xs 1 = 2) : mi_wp (some (6, xs)) 21 mi_ML 306 [(4, .int (Int32.ofInt 0)), (3, .ref 98), (2, .ref 55), (1, .ref 0), (0, .retAddr 3)] [] h c s (fun z => ∃ h' c' s', z = (.inl (some (.int (Int32.ofInt 1))), h', c', s') ∧ c' ≤ c + 5000 ∧ s' ≤ s + 50000) := by
  refine mi_wp_p (pc' := 307) rfl rfl rfl ?_
  refine mi_wp_p (pc' := 308) rfl rfl rfl ?_
  refine mi_wp_p (pc' := 310) rfl rfl rfl ?_
  refine mi_wp_p (pc' := 311) rfl rfl rfl ?_
  refine mi_wp_p (pc' := 312) rfl rfl rfl ?_
  refine mi_wp_sld rfl rfl (by decide +kernel) (k := 1) (by decide +kernel) q1 ?_
  refine mi_wp_p (pc' := 314) rfl rfl rfl ?_
  refine mi_wp_ce rfl rfl rfl rfl rfl rfl (mi_cal_s (np := 3) rfl rfl (Or.inr rfl) rfl (Nat.le_of_ble_eq_true rfl) (Nat.le_of_ble_eq_true rfl)) (Nat.le_of_ble_eq_true rfl) (mi_l_count2 g0 f0 r0 r1 a1) ?_
  intro h1 q9
  obtain ⟨r0, r1, f1, a1, g1⟩ := q9
  refine mi_wp_p (pc' := 319) rfl rfl rfl ?_
  refine mi_wp_p (pc' := 320) rfl rfl rfl ?_
  refine mi_wp_p (pc' := 321) rfl rfl rfl ?_
  refine mi_wp_p (pc' := 323) rfl rfl rfl ?_
  refine mi_wp_p (pc' := 324) rfl rfl rfl ?_
  refine mi_wp_p (pc' := 325) rfl rfl rfl ?_
  refine mi_wp_sld rfl rfl (by decide +kernel) (k := 1) (by decide +kernel) q1 ?_
  refine mi_wp_ce rfl rfl rfl rfl rfl rfl (mi_cal_v (np := 1) rfl rfl rfl rfl (Nat.le_of_ble_eq_true rfl) (Nat.le_of_ble_eq_true rfl) (mi_rc_of r0)) (Nat.le_of_ble_eq_true rfl) (mi_r_count2 r0 r1 a1) ?_
  intro h2 q9
  obtain ⟨r0, a1⟩ := q9
  refine mi_wp_p (pc' := 331) rfl rfl rfl ?_
  refine mi_wp_p (pc' := 332) rfl rfl rfl ?_
  refine mi_wp_c1 rfl rfl rfl rfl rfl rfl (mi_cal_v (np := 0) rfl rfl rfl rfl (Nat.le_of_ble_eq_true rfl) (Nat.le_of_ble_eq_true rfl) (mi_rc_of r0)) (Nat.le_of_ble_eq_true rfl) (mi_r_thrown r0) ?_
  refine mi_wp_p (pc' := 337) rfl rfl rfl ?_
  refine mi_wp_p (pc' := 342) rfl rfl (mi_br2 (b := true) (t := 342) (by decide +kernel) rfl) ?_
  refine mi_wp_p (pc' := 344) rfl rfl rfl ?_
  refine mi_wp_p (pc' := 347) rfl rfl (mi_br1 (b := false) (t := 359) (by decide +kernel) rfl) ?_
  refine mi_wp_p (pc' := 348) rfl rfl rfl ?_
  refine mi_wp_p (pc' := 349) rfl rfl rfl ?_
  refine mi_wp_laldv rfl rfl a1 (by decide +kernel) (by decide +kernel) g1 ?_
  refine mi_wp_p (pc' := 352) rfl rfl rfl ?_
  refine mi_wp_p (pc' := 353) rfl rfl rfl ?_
  refine mi_wp_p (pc' := 354) rfl rfl rfl ?_
  refine mi_wp_p (pc' := 359) rfl rfl (mi_br1 (b := true) (t := 359) (by decide +kernel) rfl) ?_
  refine mi_wp_p (pc' := 933) rfl rfl rfl ?_
  refine mi_wp_p (pc' := 936) rfl rfl rfl ?_
  refine mi_wp_p (pc' := 23) rfl rfl rfl ?_
  refine mi_wp_p (pc' := 25) rfl rfl rfl ?_
  refine mi_wp_p (pc' := 26) rfl rfl rfl ?_
  refine mi_wp_slen rfl rfl ?_
  refine mi_wp_p (pc' := 29) rfl rfl rfl ?_
  refine mi_wp_p (pc' := 30) rfl rfl rfl ?_
  refine mi_wp_p (pc' := 939) rfl rfl (mi_br2 (b := true) (t := 939) (by decide +kernel) rfl) ?_
  refine mi_wp_p (pc' := 940) rfl rfl rfl ?_
  exact mi_wp_r rfl rfl rfl rfl ⟨_, _, _, rfl, by omega, by omega⟩
set_option maxRecDepth 100000 in
theorem mi_L_count3 {xs : Nat → Int32} {h : mi_H} {c s : Nat} {f : Nat → Int64} (f0 : mi_fv h 0 10 10 = some (.int 0)) (r0 : mi_fv h 55 11 0 = some (.int 0)) (r1 : mi_fv h 55 11 2 = some (.int 0)) (a1 : mi_al h 98 = some (1, f)) (q1 : xs 1 = 3) : mi_wp (some (6, xs)) 21 mi_ML 306 [(4, .int (Int32.ofInt 0)), (3, .ref 98), (2, .ref 55), (1, .ref 0), (0, .retAddr 3)] [] h c s (fun z => ∃ h' c' s', z = (.inl (some (.int (Int32.ofInt 1))), h', c', s') ∧ c' ≤ c + 5000 ∧ s' ≤ s + 50000) := by
  refine mi_wp_p (pc' := 307) rfl rfl rfl ?_
  refine mi_wp_p (pc' := 308) rfl rfl rfl ?_
  refine mi_wp_p (pc' := 310) rfl rfl rfl ?_
  refine mi_wp_p (pc' := 311) rfl rfl rfl ?_
  refine mi_wp_p (pc' := 312) rfl rfl rfl ?_
  refine mi_wp_sld rfl rfl (by decide +kernel) (k := 1) (by decide +kernel) q1 ?_
  refine mi_wp_p (pc' := 314) rfl rfl rfl ?_
  refine mi_wp_ce rfl rfl rfl rfl rfl rfl (mi_cal_s (np := 3) rfl rfl (Or.inr rfl) rfl (Nat.le_of_ble_eq_true rfl) (Nat.le_of_ble_eq_true rfl)) (Nat.le_of_ble_eq_true rfl) (mi_l_count3 f0 r0 r1 a1) ?_
  intro h1 q9
  obtain ⟨r0, r1, f1, a1, g1⟩ := q9
  refine mi_wp_p (pc' := 319) rfl rfl rfl ?_
  refine mi_wp_p (pc' := 320) rfl rfl rfl ?_
  refine mi_wp_p (pc' := 321) rfl rfl rfl ?_
  refine mi_wp_p (pc' := 323) rfl rfl rfl ?_
  refine mi_wp_p (pc' := 324) rfl rfl rfl ?_
  refine mi_wp_p (pc' := 325) rfl rfl rfl ?_
  refine mi_wp_sld rfl rfl (by decide +kernel) (k := 1) (by decide +kernel) q1 ?_
  refine mi_wp_ce rfl rfl rfl rfl rfl rfl (mi_cal_v (np := 1) rfl rfl rfl rfl (Nat.le_of_ble_eq_true rfl) (Nat.le_of_ble_eq_true rfl) (mi_rc_of r0)) (Nat.le_of_ble_eq_true rfl) (mi_r_count3 r0 r1 a1) ?_
  intro h2 q9
  obtain ⟨r0, a1⟩ := q9
  refine mi_wp_p (pc' := 331) rfl rfl rfl ?_
  refine mi_wp_p (pc' := 332) rfl rfl rfl ?_
  refine mi_wp_c1 rfl rfl rfl rfl rfl rfl (mi_cal_v (np := 0) rfl rfl rfl rfl (Nat.le_of_ble_eq_true rfl) (Nat.le_of_ble_eq_true rfl) (mi_rc_of r0)) (Nat.le_of_ble_eq_true rfl) (mi_r_thrown r0) ?_
  refine mi_wp_p (pc' := 337) rfl rfl rfl ?_
  refine mi_wp_p (pc' := 342) rfl rfl (mi_br2 (b := true) (t := 342) (by decide +kernel) rfl) ?_
  refine mi_wp_p (pc' := 344) rfl rfl rfl ?_
  refine mi_wp_p (pc' := 347) rfl rfl (mi_br1 (b := false) (t := 359) (by decide +kernel) rfl) ?_
  refine mi_wp_p (pc' := 348) rfl rfl rfl ?_
  refine mi_wp_p (pc' := 349) rfl rfl rfl ?_
  refine mi_wp_laldv rfl rfl a1 (by decide +kernel) (by decide +kernel) g1 ?_
  refine mi_wp_p (pc' := 352) rfl rfl rfl ?_
  refine mi_wp_p (pc' := 353) rfl rfl rfl ?_
  refine mi_wp_p (pc' := 354) rfl rfl rfl ?_
  refine mi_wp_p (pc' := 359) rfl rfl (mi_br1 (b := true) (t := 359) (by decide +kernel) rfl) ?_
  refine mi_wp_p (pc' := 933) rfl rfl rfl ?_
  refine mi_wp_p (pc' := 936) rfl rfl rfl ?_
  refine mi_wp_p (pc' := 23) rfl rfl rfl ?_
  refine mi_wp_p (pc' := 25) rfl rfl rfl ?_
  refine mi_wp_p (pc' := 26) rfl rfl rfl ?_
  refine mi_wp_slen rfl rfl ?_
  refine mi_wp_p (pc' := 29) rfl rfl rfl ?_
  refine mi_wp_p (pc' := 30) rfl rfl rfl ?_
  refine mi_wp_p (pc' := 939) rfl rfl (mi_br2 (b := true) (t := 939) (by decide +kernel) rfl) ?_
  refine mi_wp_p (pc' := 940) rfl rfl rfl ?_
  exact mi_wp_r rfl rfl rfl rfl ⟨_, _, _, rfl, by omega, by omega⟩
set_option maxRecDepth 100000 in
theorem mi_L_count4 {xs : Nat → Int32} {h : mi_H} {c s : Nat} {f : Nat → Int64} (g0 : mi_fv h 0 10 9 = some (.ref 52)) (f0 : mi_fv h 52 9 5 = some (.int 0)) (r0 : mi_fv h 55 11 0 = some (.int 0)) (r1 : mi_fv h 55 11 9 = some (.int 0)) (a1 : mi_al h 98 = some (1, f)) (q1 : xs 1 = 4) : mi_wp (some (6, xs)) 21 mi_ML 306 [(4, .int (Int32.ofInt 0)), (3, .ref 98), (2, .ref 55), (1, .ref 0), (0, .retAddr 3)] [] h c s (fun z => ∃ h' c' s', z = (.inl (some (.int (Int32.ofInt 1))), h', c', s') ∧ c' ≤ c + 5000 ∧ s' ≤ s + 50000) := by
  refine mi_wp_p (pc' := 307) rfl rfl rfl ?_
  refine mi_wp_p (pc' := 308) rfl rfl rfl ?_
  refine mi_wp_p (pc' := 310) rfl rfl rfl ?_
  refine mi_wp_p (pc' := 311) rfl rfl rfl ?_
  refine mi_wp_p (pc' := 312) rfl rfl rfl ?_
  refine mi_wp_sld rfl rfl (by decide +kernel) (k := 1) (by decide +kernel) q1 ?_
  refine mi_wp_p (pc' := 314) rfl rfl rfl ?_
  refine mi_wp_ce rfl rfl rfl rfl rfl rfl (mi_cal_s (np := 3) rfl rfl (Or.inr rfl) rfl (Nat.le_of_ble_eq_true rfl) (Nat.le_of_ble_eq_true rfl)) (Nat.le_of_ble_eq_true rfl) (mi_l_count4 g0 f0 r0 r1 a1) ?_
  intro h1 q9
  obtain ⟨r0, r1, f1, a1, g1⟩ := q9
  refine mi_wp_p (pc' := 319) rfl rfl rfl ?_
  refine mi_wp_p (pc' := 320) rfl rfl rfl ?_
  refine mi_wp_p (pc' := 321) rfl rfl rfl ?_
  refine mi_wp_p (pc' := 323) rfl rfl rfl ?_
  refine mi_wp_p (pc' := 324) rfl rfl rfl ?_
  refine mi_wp_p (pc' := 325) rfl rfl rfl ?_
  refine mi_wp_sld rfl rfl (by decide +kernel) (k := 1) (by decide +kernel) q1 ?_
  refine mi_wp_ce rfl rfl rfl rfl rfl rfl (mi_cal_v (np := 1) rfl rfl rfl rfl (Nat.le_of_ble_eq_true rfl) (Nat.le_of_ble_eq_true rfl) (mi_rc_of r0)) (Nat.le_of_ble_eq_true rfl) (mi_r_count4 r0 r1 a1) ?_
  intro h2 q9
  obtain ⟨r0, a1⟩ := q9
  refine mi_wp_p (pc' := 331) rfl rfl rfl ?_
  refine mi_wp_p (pc' := 332) rfl rfl rfl ?_
  refine mi_wp_c1 rfl rfl rfl rfl rfl rfl (mi_cal_v (np := 0) rfl rfl rfl rfl (Nat.le_of_ble_eq_true rfl) (Nat.le_of_ble_eq_true rfl) (mi_rc_of r0)) (Nat.le_of_ble_eq_true rfl) (mi_r_thrown r0) ?_
  refine mi_wp_p (pc' := 337) rfl rfl rfl ?_
  refine mi_wp_p (pc' := 342) rfl rfl (mi_br2 (b := true) (t := 342) (by decide +kernel) rfl) ?_
  refine mi_wp_p (pc' := 344) rfl rfl rfl ?_
  refine mi_wp_p (pc' := 347) rfl rfl (mi_br1 (b := false) (t := 359) (by decide +kernel) rfl) ?_
  refine mi_wp_p (pc' := 348) rfl rfl rfl ?_
  refine mi_wp_p (pc' := 349) rfl rfl rfl ?_
  refine mi_wp_laldv rfl rfl a1 (by decide +kernel) (by decide +kernel) g1 ?_
  refine mi_wp_p (pc' := 352) rfl rfl rfl ?_
  refine mi_wp_p (pc' := 353) rfl rfl rfl ?_
  refine mi_wp_p (pc' := 354) rfl rfl rfl ?_
  refine mi_wp_p (pc' := 359) rfl rfl (mi_br1 (b := true) (t := 359) (by decide +kernel) rfl) ?_
  refine mi_wp_p (pc' := 933) rfl rfl rfl ?_
  refine mi_wp_p (pc' := 936) rfl rfl rfl ?_
  refine mi_wp_p (pc' := 23) rfl rfl rfl ?_
  refine mi_wp_p (pc' := 25) rfl rfl rfl ?_
  refine mi_wp_p (pc' := 26) rfl rfl rfl ?_
  refine mi_wp_slen rfl rfl ?_
  refine mi_wp_p (pc' := 29) rfl rfl rfl ?_
  refine mi_wp_p (pc' := 30) rfl rfl rfl ?_
  refine mi_wp_p (pc' := 939) rfl rfl (mi_br2 (b := true) (t := 939) (by decide +kernel) rfl) ?_
  refine mi_wp_p (pc' := 940) rfl rfl rfl ?_
  exact mi_wp_r rfl rfl rfl rfl ⟨_, _, _, rfl, by omega, by omega⟩
set_option maxRecDepth 100000 in
theorem mi_L_compile {xs : Nat → Int32} {h : mi_H} {c s : Nat} {h3 h4 : mi_H} {c1 s1 c2 s2 : Nat} (f0 : mi_fv h 0 10 10 = some (.int 0)) (r0 : mi_fv h3 55 11 0 = some (.int 0)) (k1 : mi_wp (some (6, xs)) 20 mi_M5 0 [(0, .ref 0)] [] h 0 0 (fun z => z = (.inl (some (.int 1)), h3, c1, s1))) (k2 : mi_wp (some (6, xs)) 20 mi_M92 0 [(0, .ref 55)] [] h3 0 0 (fun z => z = (.inl (some (.int 1)), h4, c2, s2))) (b1 : c1 ≤ 1000) (b2 : c2 ≤ 1000) (b3 : s1 ≤ 10000) (b4 : s2 ≤ 10000) : mi_wp (some (6, xs)) 21 mi_ML 280 [(4, .int (Int32.ofInt 0)), (3, .ref 98), (2, .ref 55), (1, .ref 0), (0, .retAddr 3)] [] h c s (fun z => ∃ h' c' s', z = (.inl (some (.int (Int32.ofInt 1))), h', c', s') ∧ c' ≤ c + 5000 ∧ s' ≤ s + 50000) := by
  refine mi_wp_p (pc' := 281) rfl rfl rfl ?_
  refine mi_wp_c1 rfl rfl rfl rfl rfl rfl (mi_cal_v (np := 0) rfl rfl rfl rfl (Nat.le_of_ble_eq_true rfl) (Nat.le_of_ble_eq_true rfl) (mi_rc_of f0)) (Nat.le_of_ble_eq_true rfl) k1 ?_
  refine mi_wp_p (pc' := 285) rfl rfl rfl ?_
  refine mi_wp_c1 rfl rfl rfl rfl rfl rfl (mi_cal_v (np := 0) rfl rfl rfl rfl (Nat.le_of_ble_eq_true rfl) (Nat.le_of_ble_eq_true rfl) (mi_rc_of r0)) (Nat.le_of_ble_eq_true rfl) k2 ?_
  refine mi_wp_p (pc' := 933) rfl rfl (mi_br2 (b := true) (t := 933) (by decide +kernel) rfl) ?_
  refine mi_wp_p (pc' := 936) rfl rfl rfl ?_
  refine mi_wp_p (pc' := 23) rfl rfl rfl ?_
  refine mi_wp_p (pc' := 25) rfl rfl rfl ?_
  refine mi_wp_p (pc' := 26) rfl rfl rfl ?_
  refine mi_wp_slen rfl rfl ?_
  refine mi_wp_p (pc' := 29) rfl rfl rfl ?_
  refine mi_wp_p (pc' := 30) rfl rfl rfl ?_
  refine mi_wp_p (pc' := 939) rfl rfl (mi_br2 (b := true) (t := 939) (by decide +kernel) rfl) ?_
  refine mi_wp_p (pc' := 940) rfl rfl rfl ?_
  exact mi_wp_r rfl rfl rfl rfl ⟨_, _, _, rfl, by omega, by omega⟩
set_option maxRecDepth 100000 in
theorem mi_L_errorAt {xs : Nat → Int32} {h : mi_H} {c s : Nat} {h3 h4 : mi_H} {c1 s1 c2 s2 : Nat} (f0 : mi_fv h 0 10 10 = some (.int 0)) (r0 : mi_fv h3 55 11 0 = some (.int 0)) (k1 : mi_wp (some (6, xs)) 20 mi_M9 0 [(0, .ref 0)] [] h 0 0 (fun z => z = (.inl (some (.int (-1))), h3, c1, s1))) (k2 : mi_wp (some (6, xs)) 20 mi_M97 0 [(0, .ref 55)] [] h3 0 0 (fun z => z = (.inl (some (.int (-1))), h4, c2, s2))) (b1 : c1 ≤ 1000) (b2 : c2 ≤ 1000) (b3 : s1 ≤ 10000) (b4 : s2 ≤ 10000) : mi_wp (some (6, xs)) 21 mi_ML 293 [(4, .int (Int32.ofInt 0)), (3, .ref 98), (2, .ref 55), (1, .ref 0), (0, .retAddr 3)] [] h c s (fun z => ∃ h' c' s', z = (.inl (some (.int (Int32.ofInt 1))), h', c', s') ∧ c' ≤ c + 5000 ∧ s' ≤ s + 50000) := by
  refine mi_wp_p (pc' := 294) rfl rfl rfl ?_
  refine mi_wp_c1 rfl rfl rfl rfl rfl rfl (mi_cal_v (np := 0) rfl rfl rfl rfl (Nat.le_of_ble_eq_true rfl) (Nat.le_of_ble_eq_true rfl) (mi_rc_of f0)) (Nat.le_of_ble_eq_true rfl) k1 ?_
  refine mi_wp_p (pc' := 298) rfl rfl rfl ?_
  refine mi_wp_c1 rfl rfl rfl rfl rfl rfl (mi_cal_v (np := 0) rfl rfl rfl rfl (Nat.le_of_ble_eq_true rfl) (Nat.le_of_ble_eq_true rfl) (mi_rc_of r0)) (Nat.le_of_ble_eq_true rfl) k2 ?_
  refine mi_wp_p (pc' := 933) rfl rfl (mi_br2 (b := true) (t := 933) (by decide +kernel) rfl) ?_
  refine mi_wp_p (pc' := 936) rfl rfl rfl ?_
  refine mi_wp_p (pc' := 23) rfl rfl rfl ?_
  refine mi_wp_p (pc' := 25) rfl rfl rfl ?_
  refine mi_wp_p (pc' := 26) rfl rfl rfl ?_
  refine mi_wp_slen rfl rfl ?_
  refine mi_wp_p (pc' := 29) rfl rfl rfl ?_
  refine mi_wp_p (pc' := 30) rfl rfl rfl ?_
  refine mi_wp_p (pc' := 939) rfl rfl (mi_br2 (b := true) (t := 939) (by decide +kernel) rfl) ?_
  refine mi_wp_p (pc' := 940) rfl rfl rfl ?_
  exact mi_wp_r rfl rfl rfl rfl ⟨_, _, _, rfl, by omega, by omega⟩
set_option maxRecDepth 100000 in
theorem mi_L_ask {xs : Nat → Int32} {h : mi_H} {c s : Nat} {h3 h4 : mi_H} {c1 s1 c2 s2 : Nat} (f0 : mi_fv h 0 10 10 = some (.int 0)) (r0 : mi_fv h3 55 11 0 = some (.int 0)) (k1 : mi_wp (some (6, xs)) 20 mi_M3 0 [(0, .ref 0)] [] h 0 0 (fun z => z = (.inl (some (.int 1)), h3, c1, s1))) (k2 : mi_wp (some (6, xs)) 20 mi_M88 0 [(0, .ref 55)] [] h3 0 0 (fun z => z = (.inl (some (.int 1)), h4, c2, s2))) (b1 : c1 ≤ 1000) (b2 : c2 ≤ 1000) (b3 : s1 ≤ 10000) (b4 : s2 ≤ 10000) : mi_wp (some (6, xs)) 21 mi_ML 865 [(4, .int (Int32.ofInt 0)), (3, .ref 98), (2, .ref 55), (1, .ref 0), (0, .retAddr 3)] [] h c s (fun z => ∃ h' c' s', z = (.inl (some (.int (Int32.ofInt 1))), h', c', s') ∧ c' ≤ c + 5000 ∧ s' ≤ s + 50000) := by
  refine mi_wp_p (pc' := 866) rfl rfl rfl ?_
  refine mi_wp_c1 rfl rfl rfl rfl rfl rfl (mi_cal_v (np := 0) rfl rfl rfl rfl (Nat.le_of_ble_eq_true rfl) (Nat.le_of_ble_eq_true rfl) (mi_rc_of f0)) (Nat.le_of_ble_eq_true rfl) k1 ?_
  refine mi_wp_p (pc' := 870) rfl rfl rfl ?_
  refine mi_wp_c1 rfl rfl rfl rfl rfl rfl (mi_cal_v (np := 0) rfl rfl rfl rfl (Nat.le_of_ble_eq_true rfl) (Nat.le_of_ble_eq_true rfl) (mi_rc_of r0)) (Nat.le_of_ble_eq_true rfl) k2 ?_
  refine mi_wp_p (pc' := 933) rfl rfl (mi_br2 (b := true) (t := 933) (by decide +kernel) rfl) ?_
  refine mi_wp_p (pc' := 936) rfl rfl rfl ?_
  refine mi_wp_p (pc' := 23) rfl rfl rfl ?_
  refine mi_wp_p (pc' := 25) rfl rfl rfl ?_
  refine mi_wp_p (pc' := 26) rfl rfl rfl ?_
  refine mi_wp_slen rfl rfl ?_
  refine mi_wp_p (pc' := 29) rfl rfl rfl ?_
  refine mi_wp_p (pc' := 30) rfl rfl rfl ?_
  refine mi_wp_p (pc' := 939) rfl rfl (mi_br2 (b := true) (t := 939) (by decide +kernel) rfl) ?_
  refine mi_wp_p (pc' := 940) rfl rfl rfl ?_
  exact mi_wp_r rfl rfl rfl rfl ⟨_, _, _, rfl, by omega, by omega⟩
set_option maxRecDepth 100000 in
theorem mi_L_meanParts {xs : Nat → Int32} {h : mi_H} {c s : Nat} {h3 h4 : mi_H} {c1 s1 c2 s2 : Nat} (f0 : mi_fv h 0 10 10 = some (.int 0)) (r0 : mi_fv h3 55 11 0 = some (.int 0)) (k1 : mi_wp (some (6, xs)) 20 mi_M12 0 [(0, .ref 0)] [] h 0 0 (fun z => z = (.inl (some (.double 0)), h3, c1, s1))) (k2 : mi_wp (some (6, xs)) 20 mi_M113 0 [(0, .ref 55)] [] h3 0 0 (fun z => z = (.inl (some (.double 0)), h4, c2, s2))) (b1 : c1 ≤ 1000) (b2 : c2 ≤ 1000) (b3 : s1 ≤ 10000) (b4 : s2 ≤ 10000) : mi_wp (some (6, xs)) 21 mi_ML 878 [(4, .int (Int32.ofInt 0)), (3, .ref 98), (2, .ref 55), (1, .ref 0), (0, .retAddr 3)] [] h c s (fun z => ∃ h' c' s', z = (.inl (some (.int (Int32.ofInt 1))), h', c', s') ∧ c' ≤ c + 5000 ∧ s' ≤ s + 50000) := by
  refine mi_wp_p (pc' := 879) rfl rfl rfl ?_
  refine mi_wp_c1 rfl rfl rfl rfl rfl rfl (mi_cal_v (np := 0) rfl rfl rfl rfl (Nat.le_of_ble_eq_true rfl) (Nat.le_of_ble_eq_true rfl) (mi_rc_of f0)) (Nat.le_of_ble_eq_true rfl) k1 ?_
  refine mi_wp_p (pc' := 884) rfl rfl rfl ?_
  refine mi_wp_p (pc' := 885) rfl rfl rfl ?_
  refine mi_wp_c1 rfl rfl rfl rfl rfl rfl (mi_cal_v (np := 0) rfl rfl rfl rfl (Nat.le_of_ble_eq_true rfl) (Nat.le_of_ble_eq_true rfl) (mi_rc_of r0)) (Nat.le_of_ble_eq_true rfl) k2 ?_
  refine mi_wp_p (pc' := 890) rfl rfl rfl ?_
  refine mi_wp_p (pc' := 892) rfl rfl rfl ?_
  refine mi_wp_p (pc' := 894) rfl rfl rfl ?_
  refine mi_wp_p (pc' := 895) rfl rfl rfl ?_
  refine mi_wp_p (pc' := 916) rfl rfl (mi_br1 (b := true) (t := 916) (by decide +kernel) rfl) ?_
  refine mi_wp_p (pc' := 933) rfl rfl rfl ?_
  refine mi_wp_p (pc' := 936) rfl rfl rfl ?_
  refine mi_wp_p (pc' := 23) rfl rfl rfl ?_
  refine mi_wp_p (pc' := 25) rfl rfl rfl ?_
  refine mi_wp_p (pc' := 26) rfl rfl rfl ?_
  refine mi_wp_slen rfl rfl ?_
  refine mi_wp_p (pc' := 29) rfl rfl rfl ?_
  refine mi_wp_p (pc' := 30) rfl rfl rfl ?_
  refine mi_wp_p (pc' := 939) rfl rfl (mi_br2 (b := true) (t := 939) (by decide +kernel) rfl) ?_
  refine mi_wp_p (pc' := 940) rfl rfl rfl ?_
  exact mi_wp_r rfl rfl rfl rfl ⟨_, _, _, rfl, by omega, by omega⟩
set_option maxRecDepth 100000 in
theorem mi_L_digest {xs : Nat → Int32} {h : mi_H} {c s : Nat} {h3 h4 : mi_H} {c1 s1 c2 s2 : Nat} (f0 : mi_fv h 0 10 10 = some (.int 0)) (r0 : mi_fv h3 55 11 0 = some (.int 0)) (k1 : mi_wp (some (6, xs)) 20 mi_M8 0 [(0, .ref 0)] [] h 0 0 (fun z => z = (.inl (some (.long 11709322759)), h3, c1, s1))) (k2 : mi_wp (some (6, xs)) 20 mi_M96 0 [(0, .ref 55)] [] h3 0 0 (fun z => z = (.inl (some (.long 11709322759)), h4, c2, s2))) (b1 : c1 ≤ 1000) (b2 : c2 ≤ 1000) (b3 : s1 ≤ 10000) (b4 : s2 ≤ 10000) : mi_wp (some (6, xs)) 21 mi_ML 919 [(4, .int (Int32.ofInt 0)), (3, .ref 98), (2, .ref 55), (1, .ref 0), (0, .retAddr 3)] [] h c s (fun z => ∃ h' c' s', z = (.inl (some (.int (Int32.ofInt 1))), h', c', s') ∧ c' ≤ c + 5000 ∧ s' ≤ s + 50000) := by
  refine mi_wp_p (pc' := 920) rfl rfl rfl ?_
  refine mi_wp_c1 rfl rfl rfl rfl rfl rfl (mi_cal_v (np := 0) rfl rfl rfl rfl (Nat.le_of_ble_eq_true rfl) (Nat.le_of_ble_eq_true rfl) (mi_rc_of f0)) (Nat.le_of_ble_eq_true rfl) k1 ?_
  refine mi_wp_p (pc' := 924) rfl rfl rfl ?_
  refine mi_wp_c1 rfl rfl rfl rfl rfl rfl (mi_cal_v (np := 0) rfl rfl rfl rfl (Nat.le_of_ble_eq_true rfl) (Nat.le_of_ble_eq_true rfl) (mi_rc_of r0)) (Nat.le_of_ble_eq_true rfl) k2 ?_
  refine mi_wp_p (pc' := 928) rfl rfl rfl ?_
  refine mi_wp_p (pc' := 933) rfl rfl (mi_br1 (b := true) (t := 933) (by decide +kernel) rfl) ?_
  refine mi_wp_p (pc' := 936) rfl rfl rfl ?_
  refine mi_wp_p (pc' := 23) rfl rfl rfl ?_
  refine mi_wp_p (pc' := 25) rfl rfl rfl ?_
  refine mi_wp_p (pc' := 26) rfl rfl rfl ?_
  refine mi_wp_slen rfl rfl ?_
  refine mi_wp_p (pc' := 29) rfl rfl rfl ?_
  refine mi_wp_p (pc' := 30) rfl rfl rfl ?_
  refine mi_wp_p (pc' := 939) rfl rfl (mi_br2 (b := true) (t := 939) (by decide +kernel) rfl) ?_
  refine mi_wp_p (pc' := 940) rfl rfl rfl ?_
  exact mi_wp_r rfl rfl rfl rfl ⟨_, _, _, rfl, by omega, by omega⟩
