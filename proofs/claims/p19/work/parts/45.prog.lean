/-! ===== the parser on items, programs and questions (printed by wip/gen/p_prog.py) ===== -/
/-- a method without arguments that reads tokens of the kinds ts and adds the steps l -/
def DS (X : mi_X) (d : Nat) (M : mi_M) (ts : List Int) (l : Int → Int → List (Int × Int × Int)) : Prop := ∀ (σ : mi_Sg), pw26 σ → tq σ (mi_sF σ 42 3) ts → mi_sF σ 42 3 + ts.length < mi_sF σ 3 7 → mi_sF σ 26 7 + (l (mi_sF σ 42 3) (mi_sF σ 26 7)).length ≤ 1000 → ty_Cv X d M [(0, .ref 42)] σ (fun σ' => ps26_Q σ σ' ts.length (l (mi_sF σ 42 3) (mi_sF σ 26 7)))
theorem dn_plain {X : mi_X} {d : Nat} {ts : List Int} {l : Int → Int → List (Int × Int × Int)} {r : Int → Int → Int} (hA : ES26 X (d + 4) mi_M65 0 ts l r) : DS X (d + 5) mi_M64 (1 :: 13 :: 61 :: (ts ++ [59])) (fun p s => (10, p, 0) :: (l (p + 3) (s + 1) ++ [(12, r (p + 3) (s + 1), p)])) := by
  intro σ pw T hlen hroom h S
  have fr := mi_Fm_rf h
  have A0 := ps26_rf (σ := σ)
  have pw0 := pw
  obtain ⟨q1, q2, q3, q4, q5⟩ := pw0
  try simp only [List.length_cons, List.length_append, List.length_nil] at hlen
  try simp only [List.length_cons, List.length_append, List.length_nil] at hroom
  obtain ⟨t0, T1⟩ := tq_cons T
  obtain ⟨t1, T2⟩ := tq_cons T1
  obtain ⟨t2, T3⟩ := tq_cons T2
  obtain ⟨Ta, T4⟩ := tq_app T3
  obtain ⟨t3, -⟩ := tq_cons T4
  have t1' : mi_sA σ 5 (mi_sF σ 42 3 + 1) = 13 := by rw [← t1]; congr 1; omega
  have t2' : mi_sA σ 5 (mi_sF σ 42 3 + 2) = 61 := by rw [← t2]; congr 1; omega
  have t3' : mi_sA σ 5 (mi_sF σ 42 3 + (3 + ts.length)) = 59 := by rw [← t3]; congr 1; omega
  rw [show mi_sF σ 42 3 + 1 + 1 + 1 = mi_sF σ 42 3 + 3 by omega] at Ta
  refine mi_wp_p (pc' := 1) (st' := [.ref 42]) rfl rfl rfl ?_
  refine ty_s_gf (x := mi_sF σ 42 3) S rfl rfl rfl (List.mem_of_getElem? (i := 18) rfl) rfl ?_
  refine mi_wp_p (pc' := 5) (l' := [(1, .int (Int32.ofInt (mi_sF σ 42 3))), (0, .ref 42)]) (st' := []) rfl rfl rfl ?_
  refine mi_wp_p (pc' := 6) (st' := [.ref 42]) rfl rfl rfl ?_
  refine mi_s_k (pc' := 8) (e := 10) rfl rfl rfl (by decide +kernel) ?_
  refine mi_wp_p (pc' := 9) (st' := [.int (Int32.ofInt (mi_sF σ 42 3)), .int (Int32.ofInt 10), .ref 42]) rfl rfl rfl ?_
  refine mi_wp_p (pc' := 10) (st' := [.int (Int32.ofInt 0), .int (Int32.ofInt (mi_sF σ 42 3)), .int (Int32.ofInt 10), .ref 42]) rfl rfl rfl ?_
  refine mi_wp_p (pc' := 11) (st' := [.int (Int32.ofInt 0), .int (Int32.ofInt 0), .int (Int32.ofInt (mi_sF σ 42 3)), .int (Int32.ofInt 10), .ref 42]) rfl rfl rfl ?_
  refine ty_s_ci rfl rfl rfl rfl rfl rfl (mi_cal_v2 (np := 4) (args := [.ref 42, .int (Int32.ofInt 10), .int (Int32.ofInt (mi_sF σ 42 3)), .int (Int32.ofInt 0), .int (Int32.ofInt 0)]) (rest := []) rfl rfl rfl rfl rfl (Nat.le_of_ble_eq_true rfl) rfl rfl (Nat.le_of_ble_eq_true rfl) (ty_rcS S (List.mem_of_getElem? (i := 18) rfl))) (Nat.le_of_ble_eq_true rfl) S (pr26_add (σ := σ) pw (by omega)) ?_
  intro x hh σ1 S f P0
  obtain ⟨e1, P1⟩ := P0
  rw [e1]
  clear e1
  have A1 := ps26_tr pw.2.2.2.2 A0 P1
  have pw1 := ps26_pw A1 pw (by omega)
  have g1 := ps26_7 A1
  try simp only [List.length_append, List.length_cons, List.length_nil] at g1
  replace fr := mi_Fm_tr fr f
  refine mi_wp_p (pc' := 15) (st' := []) rfl rfl rfl ?_
  refine mi_wp_p (pc' := 16) (st' := [.ref 42]) rfl rfl rfl ?_
  refine mi_wp_p (pc' := 17) (st' := [.int (Int32.ofInt 1), .ref 42]) rfl rfl rfl ?_
  refine ty_s_cv rfl rfl rfl rfl rfl rfl (mi_cal_v2 (np := 1) (args := [.ref 42, .int (Int32.ofInt 1)]) (rest := []) rfl rfl rfl rfl rfl (Nat.le_of_ble_eq_true rfl) rfl rfl (Nat.le_of_ble_eq_true rfl) (ty_rcS S (List.mem_of_getElem? (i := 18) rfl))) (Nat.le_of_ble_eq_true rfl) S (pr26_take (σ := σ1) pw1.1 pw1.2.2.1 (by omega) pw1.2.2.2.1 (ps26_k A1 t0 (by first | omega | (simp only [List.length_cons, List.length_append, List.length_nil]; omega))) (by omega)) ?_
  intro hh σ2 S f P2
  have A2 := ps26_tr pw.2.2.2.2 A1 P2
  have pw2 := ps26_pw A2 pw (by omega)
  have g2 := ps26_7 A2
  try simp only [List.length_append, List.length_cons, List.length_nil] at g2
  replace fr := mi_Fm_tr fr f
  refine mi_wp_p (pc' := 21) (st' := [.ref 42]) rfl rfl rfl ?_
  refine mi_s_k (pc' := 23) (e := 13) rfl rfl rfl (by decide +kernel) ?_
  refine ty_s_cv rfl rfl rfl rfl rfl rfl (mi_cal_v2 (np := 1) (args := [.ref 42, .int (Int32.ofInt 13)]) (rest := []) rfl rfl rfl rfl rfl (Nat.le_of_ble_eq_true rfl) rfl rfl (Nat.le_of_ble_eq_true rfl) (ty_rcS S (List.mem_of_getElem? (i := 18) rfl))) (Nat.le_of_ble_eq_true rfl) S (pr26_take (σ := σ2) pw2.1 pw2.2.2.1 (by omega) pw2.2.2.2.1 (ps26_k A2 t1' (by first | omega | (simp only [List.length_cons, List.length_append, List.length_nil]; omega))) (by omega)) ?_
  intro hh σ3 S f P3
  have A3 := ps26_tr pw.2.2.2.2 A2 P3
  have pw3 := ps26_pw A3 pw (by omega)
  have g3 := ps26_7 A3
  try simp only [List.length_append, List.length_cons, List.length_nil] at g3
  replace fr := mi_Fm_tr fr f
  refine mi_wp_p (pc' := 27) (st' := [.ref 42]) rfl rfl rfl ?_
  refine ty_s_ci rfl rfl rfl rfl rfl rfl (mi_cal_v2 (np := 0) (args := [.ref 42]) (rest := []) rfl rfl rfl rfl rfl (Nat.le_of_ble_eq_true rfl) rfl rfl (Nat.le_of_ble_eq_true rfl) (ty_rcS S (List.mem_of_getElem? (i := 18) rfl))) (Nat.le_of_ble_eq_true rfl) S (pr26_kind (σ := σ3) pw3.1 pw3.2.2.1 (by omega) pw3.2.2.2.1 (ps26_k A3 t2' (by first | omega | (simp only [List.length_cons, List.length_append, List.length_nil]; omega)))) ?_
  intro x hh σu S f P
  obtain ⟨e1, e2⟩ := P
  rw [e2] at S
  rw [e1]
  clear e1 e2
  replace fr := mi_Fm_tr fr f
  refine mi_s_k (pc' := 32) (e := 58) rfl rfl rfl (by decide +kernel) ?_
  refine mi_s_if2 (t := 61) rfl rfl rfl (by unfold mi_R; omega) (by unfold mi_R; omega) (fun _ => ?_) (fun hc_ => absurd (show (61 : Int) ≠ 58 by omega) hc_)
  refine mi_wp_p (pc' := 62) (st' := [.ref 42]) rfl rfl rfl ?_
  refine mi_s_k (pc' := 64) (e := 61) rfl rfl rfl (by decide +kernel) ?_
  refine ty_s_cv rfl rfl rfl rfl rfl rfl (mi_cal_v2 (np := 1) (args := [.ref 42, .int (Int32.ofInt 61)]) (rest := []) rfl rfl rfl rfl rfl (Nat.le_of_ble_eq_true rfl) rfl rfl (Nat.le_of_ble_eq_true rfl) (ty_rcS S (List.mem_of_getElem? (i := 18) rfl))) (Nat.le_of_ble_eq_true rfl) S (pr26_take (σ := σ3) pw3.1 pw3.2.2.1 (by omega) pw3.2.2.2.1 (ps26_k A3 t2' (by first | omega | (simp only [List.length_cons, List.length_append, List.length_nil]; omega))) (by omega)) ?_
  intro hh σ4 S f P4
  have A4 := ps26_tr pw.2.2.2.2 A3 P4
  have pw4 := ps26_pw A4 pw (by omega)
  have g4 := ps26_7 A4
  try simp only [List.length_append, List.length_cons, List.length_nil] at g4
  replace fr := mi_Fm_tr fr f
  refine mi_wp_p (pc' := 68) (st' := [.ref 42]) rfl rfl rfl ?_
  refine mi_wp_p (pc' := 69) (st' := [.int (Int32.ofInt 0), .ref 42]) rfl rfl rfl ?_
  have ep5 : mi_sF σ4 42 3 = mi_sF σ 42 3 + (3) := by omega
  have es5 : mi_sF σ4 26 7 = mi_sF σ 26 7 + (1) := (by first | omega | (simp only [List.length_cons, List.length_append, List.length_nil]; omega))
  have Tk5 := tq_ps26 (p' := mi_sF σ4 42 3) A4 Ta (by omega)
  have hn5 : mi_sA σ4 5 (mi_sF σ4 42 3 + ((ts.length : Int))) = 59 := ps26_k2 A4 t3' (by first | omega | (simp only [List.length_cons, List.length_append, List.length_nil]; omega))
  have hr5 : mi_sF σ4 26 7 + (l (mi_sF σ4 42 3) (mi_sF σ4 26 7)).length ≤ 1000 := by
    try rw [ep5, es5]
    omega
  refine ty_s_ci rfl rfl rfl rfl rfl rfl (mi_cal_v2 (np := 1) (args := [.ref 42, .int (Int32.ofInt 0)]) (rest := []) rfl rfl rfl rfl rfl (Nat.le_of_ble_eq_true rfl) rfl rfl (Nat.le_of_ble_eq_true rfl) (ty_rcS S (List.mem_of_getElem? (i := 18) rfl))) (Nat.le_of_ble_eq_true rfl) S (hA σ4 59 pw4 Tk5 (by first | omega | (simp only [List.length_cons, List.length_append, List.length_nil]; omega)) hn5 (by unfold fe; omega) hr5) ?_
  intro x5 hh σ5 S f P0
  obtain ⟨e1, P5⟩ := P0
  try rw [ep5, es5] at P5 e1
  rw [e1]
  clear e1
  have A5 := ps26_tr pw.2.2.2.2 A4 P5
  have pw5 := ps26_pw A5 pw (by omega)
  have g5 := ps26_7 A5
  try simp only [List.length_append, List.length_cons, List.length_nil] at g5
  replace fr := mi_Fm_tr fr f
  refine mi_wp_p (pc' := 73) (l' := [(2, .int (Int32.ofInt (r (mi_sF σ 42 3 + (3)) (mi_sF σ 26 7 + (1))))), (1, .int (Int32.ofInt (mi_sF σ 42 3))), (0, .ref 42)]) (st' := []) rfl rfl rfl ?_
  refine mi_wp_p (pc' := 74) (st' := [.ref 42]) rfl rfl rfl ?_
  refine mi_s_k (pc' := 76) (e := 59) rfl rfl rfl (by decide +kernel) ?_
  refine ty_s_cv rfl rfl rfl rfl rfl rfl (mi_cal_v2 (np := 1) (args := [.ref 42, .int (Int32.ofInt 59)]) (rest := []) rfl rfl rfl rfl rfl (Nat.le_of_ble_eq_true rfl) rfl rfl (Nat.le_of_ble_eq_true rfl) (ty_rcS S (List.mem_of_getElem? (i := 18) rfl))) (Nat.le_of_ble_eq_true rfl) S (pr26_take (σ := σ5) pw5.1 pw5.2.2.1 (by omega) pw5.2.2.2.1 (ps26_k A5 t3' (by first | omega | (simp only [List.length_cons, List.length_append, List.length_nil]; omega))) (by omega)) ?_
  intro hh σ6 S f P6
  have A6 := ps26_tr pw.2.2.2.2 A5 P6
  have pw6 := ps26_pw A6 pw (by omega)
  have g6 := ps26_7 A6
  try simp only [List.length_append, List.length_cons, List.length_nil] at g6
  replace fr := mi_Fm_tr fr f
  refine mi_wp_p (pc' := 80) (st' := [.ref 42]) rfl rfl rfl ?_
  refine mi_s_k (pc' := 82) (e := 12) rfl rfl rfl (by decide +kernel) ?_
  refine mi_wp_p (pc' := 83) (st' := [.int (Int32.ofInt (r (mi_sF σ 42 3 + (3)) (mi_sF σ 26 7 + (1)))), .int (Int32.ofInt 12), .ref 42]) rfl rfl rfl ?_
  refine mi_wp_p (pc' := 84) (st' := [.int (Int32.ofInt (mi_sF σ 42 3)), .int (Int32.ofInt (r (mi_sF σ 42 3 + (3)) (mi_sF σ 26 7 + (1)))), .int (Int32.ofInt 12), .ref 42]) rfl rfl rfl ?_
  refine mi_wp_p (pc' := 85) (st' := [.int (Int32.ofInt 0), .int (Int32.ofInt (mi_sF σ 42 3)), .int (Int32.ofInt (r (mi_sF σ 42 3 + (3)) (mi_sF σ 26 7 + (1)))), .int (Int32.ofInt 12), .ref 42]) rfl rfl rfl ?_
  refine ty_s_ci rfl rfl rfl rfl rfl rfl (mi_cal_v2 (np := 4) (args := [.ref 42, .int (Int32.ofInt 12), .int (Int32.ofInt (r (mi_sF σ 42 3 + (3)) (mi_sF σ 26 7 + (1)))), .int (Int32.ofInt (mi_sF σ 42 3)), .int (Int32.ofInt 0)]) (rest := []) rfl rfl rfl rfl rfl (Nat.le_of_ble_eq_true rfl) rfl rfl (Nat.le_of_ble_eq_true rfl) (ty_rcS S (List.mem_of_getElem? (i := 18) rfl))) (Nat.le_of_ble_eq_true rfl) S (pr26_add (σ := σ6) pw6 (by omega)) ?_
  intro x hh σ7 S f P0
  obtain ⟨e1, P7⟩ := P0
  rw [e1]
  clear e1
  have A7 := ps26_tr pw.2.2.2.2 A6 P7
  have pw7 := ps26_pw A7 pw (by omega)
  have g7 := ps26_7 A7
  try simp only [List.length_append, List.length_cons, List.length_nil] at g7
  replace fr := mi_Fm_tr fr f
  refine mi_wp_p (pc' := 89) (st' := []) rfl rfl rfl ?_
  exact ty_s_ret S fr rfl rfl rfl rfl ⟨rfl, ps26_eq A7 (by first | omega | (simp only [List.length_cons, List.length_append, List.length_nil]; omega)) (by first | rfl | simp only [g1.2.1, g2.2.1, g3.2.1, g4.2.1, g5.2.1, g6.2.1, g7.2.1, List.nil_append, List.append_nil, List.append_assoc, List.cons_append, Int.add_zero, Int.zero_add, Int.add_assoc, Int.reduceAdd])⟩
theorem dn_form {X : mi_X} {d : Nat} {ts : List Int} {l : Int → Int → List (Int × Int × Int)} {r : Int → Int → Int} {tf : List Int} {lf : Int → List (Int × Int × Int)} (hF : FS X (d + 4) mi_M66 0 0 tf lf) (hA : ES26 X (d + 4) mi_M65 0 ts l r) : DS X (d + 5) mi_M64 (1 :: 13 :: 58 :: (tf ++ 61 :: (ts ++ [59]))) (fun p s => (10, p, 0) :: (lf (p + 3) ++ (11, p + 3, 0) :: (l (p + (3 + (tf.length + 1))) (s + (1 + (lf (p + 3)).length + 1)) ++ [(12, r (p + (3 + (tf.length + 1))) (s + (1 + (lf (p + 3)).length + 1)), p)]))) := by
  intro σ pw T hlen hroom h S
  have fr := mi_Fm_rf h
  have A0 := ps26_rf (σ := σ)
  have pw0 := pw
  obtain ⟨q1, q2, q3, q4, q5⟩ := pw0
  try simp only [List.length_cons, List.length_append, List.length_nil] at hlen
  try simp only [List.length_cons, List.length_append, List.length_nil] at hroom
  obtain ⟨t0, T1⟩ := tq_cons T
  obtain ⟨t1, T2⟩ := tq_cons T1
  obtain ⟨t2, T3⟩ := tq_cons T2
  obtain ⟨Tf, T4⟩ := tq_app T3
  obtain ⟨t3, T5⟩ := tq_cons T4
  obtain ⟨Ta, T6⟩ := tq_app T5
  obtain ⟨t4, -⟩ := tq_cons T6
  have t1' : mi_sA σ 5 (mi_sF σ 42 3 + 1) = 13 := by rw [← t1]; congr 1; omega
  have t2' : mi_sA σ 5 (mi_sF σ 42 3 + 2) = 58 := by rw [← t2]; congr 1; omega
  have t3' : mi_sA σ 5 (mi_sF σ 42 3 + (3 + tf.length)) = 61 := by rw [← t3]; congr 1; omega
  have t4' : mi_sA σ 5 (mi_sF σ 42 3 + (3 + (tf.length + 1) + ts.length)) = 59 := by rw [← t4]; congr 1; omega
  rw [show mi_sF σ 42 3 + 1 + 1 + 1 = mi_sF σ 42 3 + 3 by omega] at Tf
  rw [show mi_sF σ 42 3 + 1 + 1 + 1 + (tf.length : Int) + 1 = mi_sF σ 42 3 + (3 + (tf.length + 1)) by omega] at Ta
  refine mi_wp_p (pc' := 1) (st' := [.ref 42]) rfl rfl rfl ?_
  refine ty_s_gf (x := mi_sF σ 42 3) S rfl rfl rfl (List.mem_of_getElem? (i := 18) rfl) rfl ?_
  refine mi_wp_p (pc' := 5) (l' := [(1, .int (Int32.ofInt (mi_sF σ 42 3))), (0, .ref 42)]) (st' := []) rfl rfl rfl ?_
  refine mi_wp_p (pc' := 6) (st' := [.ref 42]) rfl rfl rfl ?_
  refine mi_s_k (pc' := 8) (e := 10) rfl rfl rfl (by decide +kernel) ?_
  refine mi_wp_p (pc' := 9) (st' := [.int (Int32.ofInt (mi_sF σ 42 3)), .int (Int32.ofInt 10), .ref 42]) rfl rfl rfl ?_
  refine mi_wp_p (pc' := 10) (st' := [.int (Int32.ofInt 0), .int (Int32.ofInt (mi_sF σ 42 3)), .int (Int32.ofInt 10), .ref 42]) rfl rfl rfl ?_
  refine mi_wp_p (pc' := 11) (st' := [.int (Int32.ofInt 0), .int (Int32.ofInt 0), .int (Int32.ofInt (mi_sF σ 42 3)), .int (Int32.ofInt 10), .ref 42]) rfl rfl rfl ?_
  refine ty_s_ci rfl rfl rfl rfl rfl rfl (mi_cal_v2 (np := 4) (args := [.ref 42, .int (Int32.ofInt 10), .int (Int32.ofInt (mi_sF σ 42 3)), .int (Int32.ofInt 0), .int (Int32.ofInt 0)]) (rest := []) rfl rfl rfl rfl rfl (Nat.le_of_ble_eq_true rfl) rfl rfl (Nat.le_of_ble_eq_true rfl) (ty_rcS S (List.mem_of_getElem? (i := 18) rfl))) (Nat.le_of_ble_eq_true rfl) S (pr26_add (σ := σ) pw (by omega)) ?_
  intro x hh σ1 S f P0
  obtain ⟨e1, P1⟩ := P0
  rw [e1]
  clear e1
  have A1 := ps26_tr pw.2.2.2.2 A0 P1
  have pw1 := ps26_pw A1 pw (by omega)
  have g1 := ps26_7 A1
  try simp only [List.length_append, List.length_cons, List.length_nil] at g1
  replace fr := mi_Fm_tr fr f
  refine mi_wp_p (pc' := 15) (st' := []) rfl rfl rfl ?_
  refine mi_wp_p (pc' := 16) (st' := [.ref 42]) rfl rfl rfl ?_
  refine mi_wp_p (pc' := 17) (st' := [.int (Int32.ofInt 1), .ref 42]) rfl rfl rfl ?_
  refine ty_s_cv rfl rfl rfl rfl rfl rfl (mi_cal_v2 (np := 1) (args := [.ref 42, .int (Int32.ofInt 1)]) (rest := []) rfl rfl rfl rfl rfl (Nat.le_of_ble_eq_true rfl) rfl rfl (Nat.le_of_ble_eq_true rfl) (ty_rcS S (List.mem_of_getElem? (i := 18) rfl))) (Nat.le_of_ble_eq_true rfl) S (pr26_take (σ := σ1) pw1.1 pw1.2.2.1 (by omega) pw1.2.2.2.1 (ps26_k A1 t0 (by first | omega | (simp only [List.length_cons, List.length_append, List.length_nil]; omega))) (by omega)) ?_
  intro hh σ2 S f P2
  have A2 := ps26_tr pw.2.2.2.2 A1 P2
  have pw2 := ps26_pw A2 pw (by omega)
  have g2 := ps26_7 A2
  try simp only [List.length_append, List.length_cons, List.length_nil] at g2
  replace fr := mi_Fm_tr fr f
  refine mi_wp_p (pc' := 21) (st' := [.ref 42]) rfl rfl rfl ?_
  refine mi_s_k (pc' := 23) (e := 13) rfl rfl rfl (by decide +kernel) ?_
  refine ty_s_cv rfl rfl rfl rfl rfl rfl (mi_cal_v2 (np := 1) (args := [.ref 42, .int (Int32.ofInt 13)]) (rest := []) rfl rfl rfl rfl rfl (Nat.le_of_ble_eq_true rfl) rfl rfl (Nat.le_of_ble_eq_true rfl) (ty_rcS S (List.mem_of_getElem? (i := 18) rfl))) (Nat.le_of_ble_eq_true rfl) S (pr26_take (σ := σ2) pw2.1 pw2.2.2.1 (by omega) pw2.2.2.2.1 (ps26_k A2 t1' (by first | omega | (simp only [List.length_cons, List.length_append, List.length_nil]; omega))) (by omega)) ?_
  intro hh σ3 S f P3
  have A3 := ps26_tr pw.2.2.2.2 A2 P3
  have pw3 := ps26_pw A3 pw (by omega)
  have g3 := ps26_7 A3
  try simp only [List.length_append, List.length_cons, List.length_nil] at g3
  replace fr := mi_Fm_tr fr f
  refine mi_wp_p (pc' := 27) (st' := [.ref 42]) rfl rfl rfl ?_
  refine ty_s_ci rfl rfl rfl rfl rfl rfl (mi_cal_v2 (np := 0) (args := [.ref 42]) (rest := []) rfl rfl rfl rfl rfl (Nat.le_of_ble_eq_true rfl) rfl rfl (Nat.le_of_ble_eq_true rfl) (ty_rcS S (List.mem_of_getElem? (i := 18) rfl))) (Nat.le_of_ble_eq_true rfl) S (pr26_kind (σ := σ3) pw3.1 pw3.2.2.1 (by omega) pw3.2.2.2.1 (ps26_k A3 t2' (by first | omega | (simp only [List.length_cons, List.length_append, List.length_nil]; omega)))) ?_
  intro x hh σu S f P
  obtain ⟨e1, e2⟩ := P
  rw [e2] at S
  rw [e1]
  clear e1 e2
  replace fr := mi_Fm_tr fr f
  refine mi_s_k (pc' := 32) (e := 58) rfl rfl rfl (by decide +kernel) ?_
  refine mi_s_if2 (t := 61) rfl rfl rfl (by unfold mi_R; omega) (by unfold mi_R; omega) (fun hc_ => absurd (show (58 : Int) ≠ 58 from hc_) (by omega)) (fun _ => ?_)
  refine mi_wp_p (pc' := 36) (st' := [.ref 42]) rfl rfl rfl ?_
  refine mi_s_k (pc' := 38) (e := 58) rfl rfl rfl (by decide +kernel) ?_
  refine ty_s_cv rfl rfl rfl rfl rfl rfl (mi_cal_v2 (np := 1) (args := [.ref 42, .int (Int32.ofInt 58)]) (rest := []) rfl rfl rfl rfl rfl (Nat.le_of_ble_eq_true rfl) rfl rfl (Nat.le_of_ble_eq_true rfl) (ty_rcS S (List.mem_of_getElem? (i := 18) rfl))) (Nat.le_of_ble_eq_true rfl) S (pr26_take (σ := σ3) pw3.1 pw3.2.2.1 (by omega) pw3.2.2.2.1 (ps26_k A3 t2' (by first | omega | (simp only [List.length_cons, List.length_append, List.length_nil]; omega))) (by omega)) ?_
  intro hh σ4 S f P4
  have A4 := ps26_tr pw.2.2.2.2 A3 P4
  have pw4 := ps26_pw A4 pw (by omega)
  have g4 := ps26_7 A4
  try simp only [List.length_append, List.length_cons, List.length_nil] at g4
  replace fr := mi_Fm_tr fr f
  refine mi_wp_p (pc' := 42) (st' := [.ref 42]) rfl rfl rfl ?_
  refine ty_s_gf (x := mi_sF σ4 42 3) S rfl rfl rfl (List.mem_of_getElem? (i := 18) rfl) rfl ?_
  refine mi_wp_p (pc' := 46) (l' := [(2, .int (Int32.ofInt (mi_sF σ4 42 3))), (1, .int (Int32.ofInt (mi_sF σ 42 3))), (0, .ref 42)]) (st' := []) rfl rfl rfl ?_
  refine mi_wp_p (pc' := 47) (st' := [.ref 42]) rfl rfl rfl ?_
  refine mi_wp_p (pc' := 48) (st' := [.int (Int32.ofInt 0), .ref 42]) rfl rfl rfl ?_
  have ep5 : mi_sF σ4 42 3 = mi_sF σ 42 3 + (3) := by omega
  have Tk5 := tq_ps26 (p' := mi_sF σ4 42 3) A4 Tf (by omega)
  have hn5 : mi_sA σ4 5 (mi_sF σ4 42 3 + ((tf.length : Int))) = 61 := ps26_k2 A4 t3' (by first | omega | (simp only [List.length_cons, List.length_append, List.length_nil]; omega))
  have hr5 : mi_sF σ4 26 7 + (lf (mi_sF σ4 42 3)).length ≤ 1000 := by
    try rw [ep5]
    omega
  refine ty_s_cv rfl rfl rfl rfl rfl rfl (mi_cal_v2 (np := 1) (args := [.ref 42, .int (Int32.ofInt 0)]) (rest := []) rfl rfl rfl rfl rfl (Nat.le_of_ble_eq_true rfl) rfl rfl (Nat.le_of_ble_eq_true rfl) (ty_rcS S (List.mem_of_getElem? (i := 18) rfl))) (Nat.le_of_ble_eq_true rfl) S (hF σ4 61 pw4 Tk5 (by first | omega | (simp only [List.length_cons, List.length_append, List.length_nil]; omega)) hn5 (by unfold fo; omega) hr5) ?_
  intro hh σ5 S f P5
  try rw [ep5] at P5
  have A5 := ps26_tr pw.2.2.2.2 A4 P5
  have pw5 := ps26_pw A5 pw (by omega)
  have g5 := ps26_7 A5
  try simp only [List.length_append, List.length_cons, List.length_nil] at g5
  replace fr := mi_Fm_tr fr f
  refine mi_wp_p (pc' := 52) (st' := [.ref 42]) rfl rfl rfl ?_
  refine mi_s_k (pc' := 54) (e := 11) rfl rfl rfl (by decide +kernel) ?_
  refine mi_wp_p (pc' := 55) (st' := [.int (Int32.ofInt (mi_sF σ4 42 3)), .int (Int32.ofInt 11), .ref 42]) rfl rfl rfl ?_
  refine mi_wp_p (pc' := 56) (st' := [.int (Int32.ofInt 0), .int (Int32.ofInt (mi_sF σ4 42 3)), .int (Int32.ofInt 11), .ref 42]) rfl rfl rfl ?_
  refine mi_wp_p (pc' := 57) (st' := [.int (Int32.ofInt 0), .int (Int32.ofInt 0), .int (Int32.ofInt (mi_sF σ4 42 3)), .int (Int32.ofInt 11), .ref 42]) rfl rfl rfl ?_
  refine ty_s_ci rfl rfl rfl rfl rfl rfl (mi_cal_v2 (np := 4) (args := [.ref 42, .int (Int32.ofInt 11), .int (Int32.ofInt (mi_sF σ4 42 3)), .int (Int32.ofInt 0), .int (Int32.ofInt 0)]) (rest := []) rfl rfl rfl rfl rfl (Nat.le_of_ble_eq_true rfl) rfl rfl (Nat.le_of_ble_eq_true rfl) (ty_rcS S (List.mem_of_getElem? (i := 18) rfl))) (Nat.le_of_ble_eq_true rfl) S (pr26_add (σ := σ5) pw5 (by omega)) ?_
  intro x hh σ6 S f P0
  obtain ⟨e1, P6⟩ := P0
  rw [e1]
  clear e1
  have A6 := ps26_tr pw.2.2.2.2 A5 P6
  have pw6 := ps26_pw A6 pw (by omega)
  have g6 := ps26_7 A6
  try simp only [List.length_append, List.length_cons, List.length_nil] at g6
  replace fr := mi_Fm_tr fr f
  refine mi_wp_p (pc' := 61) (st' := []) rfl rfl rfl ?_
  refine mi_wp_p (pc' := 62) (st' := [.ref 42]) rfl rfl rfl ?_
  refine mi_s_k (pc' := 64) (e := 61) rfl rfl rfl (by decide +kernel) ?_
  refine ty_s_cv rfl rfl rfl rfl rfl rfl (mi_cal_v2 (np := 1) (args := [.ref 42, .int (Int32.ofInt 61)]) (rest := []) rfl rfl rfl rfl rfl (Nat.le_of_ble_eq_true rfl) rfl rfl (Nat.le_of_ble_eq_true rfl) (ty_rcS S (List.mem_of_getElem? (i := 18) rfl))) (Nat.le_of_ble_eq_true rfl) S (pr26_take (σ := σ6) pw6.1 pw6.2.2.1 (by omega) pw6.2.2.2.1 (ps26_k A6 t3' (by first | omega | (simp only [List.length_cons, List.length_append, List.length_nil]; omega))) (by omega)) ?_
  intro hh σ7 S f P7
  have A7 := ps26_tr pw.2.2.2.2 A6 P7
  have pw7 := ps26_pw A7 pw (by omega)
  have g7 := ps26_7 A7
  try simp only [List.length_append, List.length_cons, List.length_nil] at g7
  replace fr := mi_Fm_tr fr f
  refine mi_wp_p (pc' := 68) (st' := [.ref 42]) rfl rfl rfl ?_
  refine mi_wp_p (pc' := 69) (st' := [.int (Int32.ofInt 0), .ref 42]) rfl rfl rfl ?_
  have ep8 : mi_sF σ7 42 3 = mi_sF σ 42 3 + (3 + (tf.length + 1)) := by omega
  have es8 : mi_sF σ7 26 7 = mi_sF σ 26 7 + (1 + (lf (mi_sF σ 42 3 + 3)).length + 1) := (by first | omega | (simp only [List.length_cons, List.length_append, List.length_nil]; omega))
  have Tk8 := tq_ps26 (p' := mi_sF σ7 42 3) A7 Ta (by omega)
  have hn8 : mi_sA σ7 5 (mi_sF σ7 42 3 + ((ts.length : Int))) = 59 := ps26_k2 A7 t4' (by first | omega | (simp only [List.length_cons, List.length_append, List.length_nil]; omega))
  have hr8 : mi_sF σ7 26 7 + (l (mi_sF σ7 42 3) (mi_sF σ7 26 7)).length ≤ 1000 := by
    try rw [ep8, es8]
    omega
  refine ty_s_ci rfl rfl rfl rfl rfl rfl (mi_cal_v2 (np := 1) (args := [.ref 42, .int (Int32.ofInt 0)]) (rest := []) rfl rfl rfl rfl rfl (Nat.le_of_ble_eq_true rfl) rfl rfl (Nat.le_of_ble_eq_true rfl) (ty_rcS S (List.mem_of_getElem? (i := 18) rfl))) (Nat.le_of_ble_eq_true rfl) S (hA σ7 59 pw7 Tk8 (by first | omega | (simp only [List.length_cons, List.length_append, List.length_nil]; omega)) hn8 (by unfold fe; omega) hr8) ?_
  intro x8 hh σ8 S f P0
  obtain ⟨e1, P8⟩ := P0
  try rw [ep8, es8] at P8 e1
  rw [e1]
  clear e1
  have A8 := ps26_tr pw.2.2.2.2 A7 P8
  have pw8 := ps26_pw A8 pw (by omega)
  have g8 := ps26_7 A8
  try simp only [List.length_append, List.length_cons, List.length_nil] at g8
  replace fr := mi_Fm_tr fr f
  refine mi_wp_p (pc' := 73) (l' := [(2, .int (Int32.ofInt (r (mi_sF σ 42 3 + (3 + (tf.length + 1))) (mi_sF σ 26 7 + (1 + (lf (mi_sF σ 42 3 + 3)).length + 1))))), (1, .int (Int32.ofInt (mi_sF σ 42 3))), (0, .ref 42)]) (st' := []) rfl rfl rfl ?_
  refine mi_wp_p (pc' := 74) (st' := [.ref 42]) rfl rfl rfl ?_
  refine mi_s_k (pc' := 76) (e := 59) rfl rfl rfl (by decide +kernel) ?_
  refine ty_s_cv rfl rfl rfl rfl rfl rfl (mi_cal_v2 (np := 1) (args := [.ref 42, .int (Int32.ofInt 59)]) (rest := []) rfl rfl rfl rfl rfl (Nat.le_of_ble_eq_true rfl) rfl rfl (Nat.le_of_ble_eq_true rfl) (ty_rcS S (List.mem_of_getElem? (i := 18) rfl))) (Nat.le_of_ble_eq_true rfl) S (pr26_take (σ := σ8) pw8.1 pw8.2.2.1 (by omega) pw8.2.2.2.1 (ps26_k A8 t4' (by first | omega | (simp only [List.length_cons, List.length_append, List.length_nil]; omega))) (by omega)) ?_
  intro hh σ9 S f P9
  have A9 := ps26_tr pw.2.2.2.2 A8 P9
  have pw9 := ps26_pw A9 pw (by omega)
  have g9 := ps26_7 A9
  try simp only [List.length_append, List.length_cons, List.length_nil] at g9
  replace fr := mi_Fm_tr fr f
  refine mi_wp_p (pc' := 80) (st' := [.ref 42]) rfl rfl rfl ?_
  refine mi_s_k (pc' := 82) (e := 12) rfl rfl rfl (by decide +kernel) ?_
  refine mi_wp_p (pc' := 83) (st' := [.int (Int32.ofInt (r (mi_sF σ 42 3 + (3 + (tf.length + 1))) (mi_sF σ 26 7 + (1 + (lf (mi_sF σ 42 3 + 3)).length + 1)))), .int (Int32.ofInt 12), .ref 42]) rfl rfl rfl ?_
  refine mi_wp_p (pc' := 84) (st' := [.int (Int32.ofInt (mi_sF σ 42 3)), .int (Int32.ofInt (r (mi_sF σ 42 3 + (3 + (tf.length + 1))) (mi_sF σ 26 7 + (1 + (lf (mi_sF σ 42 3 + 3)).length + 1)))), .int (Int32.ofInt 12), .ref 42]) rfl rfl rfl ?_
  refine mi_wp_p (pc' := 85) (st' := [.int (Int32.ofInt 0), .int (Int32.ofInt (mi_sF σ 42 3)), .int (Int32.ofInt (r (mi_sF σ 42 3 + (3 + (tf.length + 1))) (mi_sF σ 26 7 + (1 + (lf (mi_sF σ 42 3 + 3)).length + 1)))), .int (Int32.ofInt 12), .ref 42]) rfl rfl rfl ?_
  refine ty_s_ci rfl rfl rfl rfl rfl rfl (mi_cal_v2 (np := 4) (args := [.ref 42, .int (Int32.ofInt 12), .int (Int32.ofInt (r (mi_sF σ 42 3 + (3 + (tf.length + 1))) (mi_sF σ 26 7 + (1 + (lf (mi_sF σ 42 3 + 3)).length + 1)))), .int (Int32.ofInt (mi_sF σ 42 3)), .int (Int32.ofInt 0)]) (rest := []) rfl rfl rfl rfl rfl (Nat.le_of_ble_eq_true rfl) rfl rfl (Nat.le_of_ble_eq_true rfl) (ty_rcS S (List.mem_of_getElem? (i := 18) rfl))) (Nat.le_of_ble_eq_true rfl) S (pr26_add (σ := σ9) pw9 (by omega)) ?_
  intro x hh σ10 S f P0
  obtain ⟨e1, P10⟩ := P0
  rw [e1]
  clear e1
  have A10 := ps26_tr pw.2.2.2.2 A9 P10
  have pw10 := ps26_pw A10 pw (by omega)
  have g10 := ps26_7 A10
  try simp only [List.length_append, List.length_cons, List.length_nil] at g10
  replace fr := mi_Fm_tr fr f
  refine mi_wp_p (pc' := 89) (st' := []) rfl rfl rfl ?_
  exact ty_s_ret S fr rfl rfl rfl rfl ⟨rfl, ps26_eq A10 (by first | omega | (simp only [List.length_cons, List.length_append, List.length_nil]; omega)) (by first | rfl | simp only [g1.2.1, g2.2.1, g3.2.1, g4.2.1, g5.2.1, g6.2.1, g7.2.1, g8.2.1, g9.2.1, g10.2.1, List.nil_append, List.append_nil, List.append_assoc, List.cons_append, Int.add_zero, Int.zero_add, Int.add_assoc, Int.reduceAdd])⟩
theorem it_def {X : mi_X} {d : Nat} {ts : List Int} {l : Int → Int → List (Int × Int × Int)} (hA : DS X (d + 5) mi_M64 (1 :: ts) l) : DS X (d + 6) mi_M70 (1 :: ts) (fun p s => l p s) := by
  intro σ pw T hlen hroom h S
  have fr := mi_Fm_rf h
  have A0 := ps26_rf (σ := σ)
  have pw0 := pw
  obtain ⟨q1, q2, q3, q4, q5⟩ := pw0
  try simp only [List.length_cons, List.length_append, List.length_nil] at hlen
  try simp only [List.length_cons, List.length_append, List.length_nil] at hroom
  obtain ⟨t0, -⟩ := tq_cons T
  have T0 := T
  refine mi_wp_p (pc' := 1) (st' := [.ref 42]) rfl rfl rfl ?_
  refine ty_s_ci rfl rfl rfl rfl rfl rfl (mi_cal_v2 (np := 0) (args := [.ref 42]) (rest := []) rfl rfl rfl rfl rfl (Nat.le_of_ble_eq_true rfl) rfl rfl (Nat.le_of_ble_eq_true rfl) (ty_rcS S (List.mem_of_getElem? (i := 18) rfl))) (Nat.le_of_ble_eq_true rfl) S (pr26_kind (σ := σ) pw.1 pw.2.2.1 (by omega) pw.2.2.2.1 (ps26_k A0 t0 (by first | omega | (simp only [List.length_cons, List.length_append, List.length_nil]; omega)))) ?_
  intro x hh σu S f P
  obtain ⟨e1, e2⟩ := P
  rw [e2] at S
  rw [e1]
  clear e1 e2
  replace fr := mi_Fm_tr fr f
  refine mi_s_if1 (t := 14) rfl rfl rfl (by unfold mi_R; omega) (fun _ => ?_) (fun hc_ => absurd (show (1 : Int) ≠ 0 by omega) hc_)
  refine mi_wp_p (pc' := 15) (st' := [.ref 42]) rfl rfl rfl ?_
  refine ty_s_ci rfl rfl rfl rfl rfl rfl (mi_cal_v2 (np := 0) (args := [.ref 42]) (rest := []) rfl rfl rfl rfl rfl (Nat.le_of_ble_eq_true rfl) rfl rfl (Nat.le_of_ble_eq_true rfl) (ty_rcS S (List.mem_of_getElem? (i := 18) rfl))) (Nat.le_of_ble_eq_true rfl) S (pr26_kind (σ := σ) pw.1 pw.2.2.1 (by omega) pw.2.2.2.1 (ps26_k A0 t0 (by first | omega | (simp only [List.length_cons, List.length_append, List.length_nil]; omega)))) ?_
  intro x hh σu S f P
  obtain ⟨e1, e2⟩ := P
  rw [e2] at S
  rw [e1]
  clear e1 e2
  replace fr := mi_Fm_tr fr f
  refine mi_wp_p (pc' := 19) (st' := [.int (Int32.ofInt 1), .int (Int32.ofInt 1)]) rfl rfl rfl ?_
  refine mi_s_if2 (t := 29) rfl rfl rfl (by unfold mi_R; omega) (by unfold mi_R; omega) (fun hc_ => absurd (show (1 : Int) ≠ 1 from hc_) (by omega)) (fun _ => ?_)
  refine mi_wp_p (pc' := 23) (st' := [.ref 42]) rfl rfl rfl ?_
  have ep1 : mi_sF σ 42 3 = mi_sF σ 42 3 := by omega
  have es1 : mi_sF σ 26 7 = mi_sF σ 26 7 := (by first | omega | (simp only [List.length_cons, List.length_append, List.length_nil]; omega))
  have Tk1 := tq_ps26 (p' := mi_sF σ 42 3) A0 T0 (by omega)
  have hr1 : mi_sF σ 26 7 + (l (mi_sF σ 42 3) (mi_sF σ 26 7)).length ≤ 1000 := by
    try rw [ep1, es1]
    omega
  refine ty_s_cv rfl rfl rfl rfl rfl rfl (mi_cal_v2 (np := 0) (args := [.ref 42]) (rest := []) rfl rfl rfl rfl rfl (Nat.le_of_ble_eq_true rfl) rfl rfl (Nat.le_of_ble_eq_true rfl) (ty_rcS S (List.mem_of_getElem? (i := 18) rfl))) (Nat.le_of_ble_eq_true rfl) S (hA σ pw Tk1 (by first | omega | (simp only [List.length_cons, List.length_append, List.length_nil]; omega)) hr1) ?_
  intro hh σ1 S f P1
  try rw [ep1, es1] at P1
  have A1 := ps26_tr pw.2.2.2.2 A0 P1
  have pw1 := ps26_pw A1 pw (by omega)
  have g1 := ps26_7 A1
  try simp only [List.length_append, List.length_cons, List.length_nil] at g1
  replace fr := mi_Fm_tr fr f
  refine mi_wp_p (pc' := 33) rfl rfl rfl ?_
  exact ty_s_ret S fr rfl rfl rfl rfl ⟨rfl, ps26_eq A1 (by first | omega | (simp only [List.length_cons, List.length_append, List.length_nil]; omega)) (by first | rfl | simp only [g1.2.1, List.nil_append, List.append_nil, List.append_assoc, List.cons_append, Int.add_zero, Int.zero_add, Int.add_assoc, Int.reduceAdd])⟩
/-- readProgram from its loop on, n items behind it -/
def RP (X : mi_X) (d : Nat) (n : Int) (ts : List Int) (l : Int → Int → List (Int × Int × Int)) : Prop := ∀ (σ : mi_Sg), pw26 σ → tq σ (mi_sF σ 42 3) ts → mi_sF σ 42 3 + ts.length ≤ mi_sF σ 3 7 → mi_sF σ 26 7 + (l (mi_sF σ 42 3) (mi_sF σ 26 7)).length ≤ 1000 → ∀ h h0, ty_H h σ → mi_Fm h0 h → mi_wp X (d + 7) mi_M75 11 [(2, .int (Int32.ofInt n)), (0, .ref 42)] [] h 0 0 (fun z => ∃ v h' σ', z = (.inl v, h', 0, 0) ∧ ty_H h' σ' ∧ mi_Fm h0 h' ∧ v = none ∧ ps26_Q σ σ' ts.length (l (mi_sF σ 42 3) (mi_sF σ 26 7)))
theorem rp_nil {X : mi_X} {d : Nat} {n : Int}  (hn0 : 0 ≤ n) (hn1 : n < 290)  : RP X d n [18] (fun p s => []) := by
  intro σ pw T hlen hroom h h0 S fr
  have A0 := ps26_rf (σ := σ)
  have pw0 := pw
  obtain ⟨q1, q2, q3, q4, q5⟩ := pw0
  try simp only [List.length_cons, List.length_append, List.length_nil] at hlen
  try simp only [List.length_cons, List.length_append, List.length_nil] at hroom
  obtain ⟨t0, -⟩ := tq_cons T
  refine mi_wp_p (pc' := 12) (st' := [.int (Int32.ofInt n)]) rfl rfl rfl ?_
  refine mi_s_k (pc' := 15) (e := 300) rfl rfl rfl (by decide +kernel) ?_
  refine mi_s_if2 (t := 47) rfl rfl rfl (by unfold mi_R; omega) (by unfold mi_R; omega) (fun hc_ => absurd (show 300 ≤ n from hc_) (by omega)) (fun _ => ?_)
  refine mi_wp_p (pc' := 19) (st' := [.ref 42]) rfl rfl rfl ?_
  refine ty_s_gr S rfl rfl rfl (List.mem_of_getElem? (i := 47) rfl) ?_
  refine ty_s_ci rfl rfl rfl rfl rfl rfl (mi_cal_v2 (np := 0) (args := [.ref 2]) (rest := []) rfl rfl rfl rfl rfl (Nat.le_of_ble_eq_true rfl) rfl rfl (Nat.le_of_ble_eq_true rfl) (ty_rcS S (List.mem_of_getElem? (i := 1) rfl))) (Nat.le_of_ble_eq_true rfl) S (fa_stands pw.1) ?_
  intro x hh σu S f P
  obtain ⟨e1, e2⟩ := P
  rw [e2] at S
  rw [e1]
  clear e1 e2
  replace fr := mi_Fm_tr fr f
  refine mi_s_if1 (t := 47) rfl rfl rfl (by unfold mi_R; omega) (fun hc_ => absurd (show (0 : Int) ≠ 0 from hc_) (by omega)) (fun _ => ?_)
  refine mi_wp_p (pc' := 29) (st' := [.ref 42]) rfl rfl rfl ?_
  refine ty_s_ci rfl rfl rfl rfl rfl rfl (mi_cal_v2 (np := 0) (args := [.ref 42]) (rest := []) rfl rfl rfl rfl rfl (Nat.le_of_ble_eq_true rfl) rfl rfl (Nat.le_of_ble_eq_true rfl) (ty_rcS S (List.mem_of_getElem? (i := 18) rfl))) (Nat.le_of_ble_eq_true rfl) S (pr26_kind (σ := σ) pw.1 pw.2.2.1 (by omega) pw.2.2.2.1 (ps26_k A0 t0 (by first | omega | (simp only [List.length_cons, List.length_append, List.length_nil]; omega)))) ?_
  intro x hh σu S f P
  obtain ⟨e1, e2⟩ := P
  rw [e2] at S
  rw [e1]
  clear e1 e2
  replace fr := mi_Fm_tr fr f
  refine mi_s_k (pc' := 34) (e := 18) rfl rfl rfl (by decide +kernel) ?_
  refine mi_s_if2 (t := 47) rfl rfl rfl (by unfold mi_R; omega) (by unfold mi_R; omega) (fun _ => ?_) (fun hc_ => absurd (show (18 : Int) = 18 by omega) hc_)
  refine mi_wp_p (pc' := 48) (st' := [.ref 42]) rfl rfl rfl ?_
  refine mi_s_k (pc' := 50) (e := 18) rfl rfl rfl (by decide +kernel) ?_
  refine ty_s_cv rfl rfl rfl rfl rfl rfl (mi_cal_v2 (np := 1) (args := [.ref 42, .int (Int32.ofInt 18)]) (rest := []) rfl rfl rfl rfl rfl (Nat.le_of_ble_eq_true rfl) rfl rfl (Nat.le_of_ble_eq_true rfl) (ty_rcS S (List.mem_of_getElem? (i := 18) rfl))) (Nat.le_of_ble_eq_true rfl) S (pr26_take (σ := σ) pw.1 pw.2.2.1 (by omega) pw.2.2.2.1 (ps26_k A0 t0 (by first | omega | (simp only [List.length_cons, List.length_append, List.length_nil]; omega))) (by omega)) ?_
  intro hh σ1 S f P1
  have A1 := ps26_tr pw.2.2.2.2 A0 P1
  have pw1 := ps26_pw A1 pw (by omega)
  have g1 := ps26_7 A1
  try simp only [List.length_append, List.length_cons, List.length_nil] at g1
  replace fr := mi_Fm_tr fr f
  exact ty_s_ret S fr rfl rfl rfl rfl ⟨rfl, ps26_eq A1 (by first | omega | (simp only [List.length_cons, List.length_append, List.length_nil]; omega)) (by first | rfl | simp only [g1.2.1, List.nil_append, List.append_nil, List.append_assoc, List.cons_append, Int.add_zero, Int.zero_add, Int.add_assoc, Int.reduceAdd])⟩
theorem rp_cons {X : mi_X} {d : Nat} {n : Int} {ts : List Int} {l : Int → Int → List (Int × Int × Int)} {ts' : List Int} {l' : Int → Int → List (Int × Int × Int)} (hn0 : 0 ≤ n) (hn1 : n < 290) (hA : DS X (d + 6) mi_M70 (1 :: ts) l) (hR : RP X d (n + 1) ts' l') (hts : ts' ≠ []) : RP X d n (1 :: (ts ++ ts')) (fun p s => l p s ++ l' (p + (ts.length + 1 : Int)) (s + (l p s).length)) := by
  intro σ pw T hlen hroom h h0 S fr
  have A0 := ps26_rf (σ := σ)
  have pw0 := pw
  obtain ⟨q1, q2, q3, q4, q5⟩ := pw0
  try simp only [List.length_cons, List.length_append, List.length_nil] at hlen
  try simp only [List.length_cons, List.length_append, List.length_nil] at hroom
  have T' : tq σ (mi_sF σ 42 3) ((1 :: ts) ++ ts') := T
  obtain ⟨Ta, Tb⟩ := tq_app T'
  obtain ⟨t0, -⟩ := tq_cons T
  have hpos : 0 < ts'.length := List.length_pos_iff.mpr hts
  refine mi_wp_p (pc' := 12) (st' := [.int (Int32.ofInt n)]) rfl rfl rfl ?_
  refine mi_s_k (pc' := 15) (e := 300) rfl rfl rfl (by decide +kernel) ?_
  refine mi_s_if2 (t := 47) rfl rfl rfl (by unfold mi_R; omega) (by unfold mi_R; omega) (fun hc_ => absurd (show 300 ≤ n from hc_) (by omega)) (fun _ => ?_)
  refine mi_wp_p (pc' := 19) (st' := [.ref 42]) rfl rfl rfl ?_
  refine ty_s_gr S rfl rfl rfl (List.mem_of_getElem? (i := 47) rfl) ?_
  refine ty_s_ci rfl rfl rfl rfl rfl rfl (mi_cal_v2 (np := 0) (args := [.ref 2]) (rest := []) rfl rfl rfl rfl rfl (Nat.le_of_ble_eq_true rfl) rfl rfl (Nat.le_of_ble_eq_true rfl) (ty_rcS S (List.mem_of_getElem? (i := 1) rfl))) (Nat.le_of_ble_eq_true rfl) S (fa_stands pw.1) ?_
  intro x hh σu S f P
  obtain ⟨e1, e2⟩ := P
  rw [e2] at S
  rw [e1]
  clear e1 e2
  replace fr := mi_Fm_tr fr f
  refine mi_s_if1 (t := 47) rfl rfl rfl (by unfold mi_R; omega) (fun hc_ => absurd (show (0 : Int) ≠ 0 from hc_) (by omega)) (fun _ => ?_)
  refine mi_wp_p (pc' := 29) (st' := [.ref 42]) rfl rfl rfl ?_
  refine ty_s_ci rfl rfl rfl rfl rfl rfl (mi_cal_v2 (np := 0) (args := [.ref 42]) (rest := []) rfl rfl rfl rfl rfl (Nat.le_of_ble_eq_true rfl) rfl rfl (Nat.le_of_ble_eq_true rfl) (ty_rcS S (List.mem_of_getElem? (i := 18) rfl))) (Nat.le_of_ble_eq_true rfl) S (pr26_kind (σ := σ) pw.1 pw.2.2.1 (by omega) pw.2.2.2.1 (ps26_k A0 t0 (by first | omega | (simp only [List.length_cons, List.length_append, List.length_nil]; omega)))) ?_
  intro x hh σu S f P
  obtain ⟨e1, e2⟩ := P
  rw [e2] at S
  rw [e1]
  clear e1 e2
  replace fr := mi_Fm_tr fr f
  refine mi_s_k (pc' := 34) (e := 18) rfl rfl rfl (by decide +kernel) ?_
  refine mi_s_if2 (t := 47) rfl rfl rfl (by unfold mi_R; omega) (by unfold mi_R; omega) (fun hc_ => absurd (show (1 : Int) = 18 from hc_) (by omega)) (fun _ => ?_)
  refine mi_wp_p (pc' := 38) (st' := [.ref 42]) rfl rfl rfl ?_
  have ep1 : mi_sF σ 42 3 = mi_sF σ 42 3 := by omega
  have es1 : mi_sF σ 26 7 = mi_sF σ 26 7 := (by first | omega | (simp only [List.length_cons, List.length_append, List.length_nil]; omega))
  have Tk1 := tq_ps26 (p' := mi_sF σ 42 3) A0 Ta (by omega)
  have hr1 : mi_sF σ 26 7 + (l (mi_sF σ 42 3) (mi_sF σ 26 7)).length ≤ 1000 := by
    try rw [ep1, es1]
    omega
  refine ty_s_cv rfl rfl rfl rfl rfl rfl (mi_cal_v2 (np := 0) (args := [.ref 42]) (rest := []) rfl rfl rfl rfl rfl (Nat.le_of_ble_eq_true rfl) rfl rfl (Nat.le_of_ble_eq_true rfl) (ty_rcS S (List.mem_of_getElem? (i := 18) rfl))) (Nat.le_of_ble_eq_true rfl) S (hA σ pw Tk1 (by first | omega | (simp only [List.length_cons, List.length_append, List.length_nil]; omega)) hr1) ?_
  intro hh σ1 S f P1
  try rw [ep1, es1] at P1
  have A1 := ps26_tr pw.2.2.2.2 A0 P1
  have pw1 := ps26_pw A1 pw (by omega)
  have g1 := ps26_7 A1
  try simp only [List.length_append, List.length_cons, List.length_nil] at g1
  replace fr := mi_Fm_tr fr f
  refine mi_s_inc (l' := [(2, .int (Int32.ofInt (n + 1))), (0, .ref 42)]) rfl rfl rfl (by decide) rfl ?_
  refine mi_wp_p (pc' := 11) rfl rfl rfl ?_
  refine mi_wp_lw (l := [(2, .int (Int32.ofInt (n + 1))), (0, .ref 42)]) (mi_lw_of (show List.Nodup [2, 0] by decide) ⟨rfl, rfl, trivial⟩) ?_
  have ep : mi_sF σ1 42 3 = mi_sF σ 42 3 + (ts.length + 1 : Int) := by omega
  have es : mi_sF σ1 26 7 = mi_sF σ 26 7 + (l (mi_sF σ 42 3) (mi_sF σ 26 7)).length := (by first | omega | (simp only [List.length_cons, List.length_append, List.length_nil]; omega))
  have hr3 : mi_sF σ1 26 7 + (l' (mi_sF σ1 42 3) (mi_sF σ1 26 7)).length ≤ 1000 := by
    rw [ep, es]
    omega
  refine mi_wp_q (hR σ1 pw1 (tq_ps26 A1 Tb (by simp only [List.length_cons]; omega)) (by omega) hr3 _ _ S fr) (fun z hz => ?_)
  obtain ⟨v, h', σ', a1, a2, a3, a4, a5⟩ := hz
  rw [ep, es] at a5
  exact ⟨v, h', σ', a1, a2, a3, a4, ps26_eq (ps26_tr pw.2.2.2.2 A1 a5) (by first | omega | (simp only [List.length_cons, List.length_append, List.length_nil]; omega)) (by simp only [List.nil_append, List.append_nil])⟩
theorem pr26_start {X : mi_X} {σ : mi_Sg} {d : Nat}  : ty_Cv X (d + 1) mi_M79 [(0, .ref 42), (1, .ref 26)] σ (fun σ' => σ' = mi_uF (mi_uF (mi_uF σ 42 2 26) 26 7 0) 42 3 0) := by
  intro h S
  have fr := mi_Fm_rf h
  refine mi_wp_p (pc' := 1) (st' := [.ref 42]) rfl rfl rfl ?_
  refine mi_wp_p (pc' := 2) (st' := [.ref 26, .ref 42]) rfl rfl rfl ?_
  refine ty_s_pv S rfl rfl rfl (List.mem_of_getElem? (i := 0) rfl) (by decide) rfl (Or.inl rfl) ?_
  intro h1 S f
  replace fr := mi_Fm_tr fr f
  refine mi_wp_p (pc' := 6) (st' := [.ref 42]) rfl rfl rfl ?_
  refine ty_s_gv (q := 26) S rfl rfl rfl (List.mem_of_getElem? (i := 0) rfl) rfl ?_
  refine ty_s_cv rfl rfl rfl rfl rfl rfl (mi_cal_v2 (np := 0) (args := [.ref 26]) (rest := []) rfl rfl rfl rfl rfl (Nat.le_of_ble_eq_true rfl) rfl rfl (Nat.le_of_ble_eq_true rfl) (ty_rcS S (List.mem_of_getElem? (i := 16) rfl))) (Nat.le_of_ble_eq_true rfl) S st26_clear ?_
  intro hh σ1 S f P
  subst P
  replace fr := mi_Fm_tr fr f
  refine mi_wp_p (pc' := 13) (st' := [.ref 42]) rfl rfl rfl ?_
  refine mi_wp_p (pc' := 14) (st' := [.int (Int32.ofInt 0), .ref 42]) rfl rfl rfl ?_
  refine ty_s_pf S rfl rfl rfl (List.mem_of_getElem? (i := 18) rfl) (by decide) mi_fit_int (Or.inl rfl) ?_
  intro h2 S f
  replace fr := mi_Fm_tr fr f
  exact ty_s_ret S fr rfl rfl rfl rfl ⟨rfl, rfl⟩
theorem pr34_start {X : mi_X} {σ : mi_Sg} {d : Nat}  : ty_Cv X (d + 1) mi_M79 [(0, .ref 42), (1, .ref 34)] σ (fun σ' => σ' = mi_uF (mi_uF (mi_uF σ 42 2 34) 34 7 0) 42 3 0) := by
  intro h S
  have fr := mi_Fm_rf h
  refine mi_wp_p (pc' := 1) (st' := [.ref 42]) rfl rfl rfl ?_
  refine mi_wp_p (pc' := 2) (st' := [.ref 34, .ref 42]) rfl rfl rfl ?_
  refine ty_s_pv S rfl rfl rfl (List.mem_of_getElem? (i := 0) rfl) (by decide) rfl (Or.inl rfl) ?_
  intro h3 S f
  replace fr := mi_Fm_tr fr f
  refine mi_wp_p (pc' := 6) (st' := [.ref 42]) rfl rfl rfl ?_
  refine ty_s_gv (q := 34) S rfl rfl rfl (List.mem_of_getElem? (i := 0) rfl) rfl ?_
  refine ty_s_cv rfl rfl rfl rfl rfl rfl (mi_cal_v2 (np := 0) (args := [.ref 34]) (rest := []) rfl rfl rfl rfl rfl (Nat.le_of_ble_eq_true rfl) rfl rfl (Nat.le_of_ble_eq_true rfl) (ty_rcS S (List.mem_of_getElem? (i := 17) rfl))) (Nat.le_of_ble_eq_true rfl) S st34_clear ?_
  intro hh σ1 S f P
  subst P
  replace fr := mi_Fm_tr fr f
  refine mi_wp_p (pc' := 13) (st' := [.ref 42]) rfl rfl rfl ?_
  refine mi_wp_p (pc' := 14) (st' := [.int (Int32.ofInt 0), .ref 42]) rfl rfl rfl ?_
  refine ty_s_pf S rfl rfl rfl (List.mem_of_getElem? (i := 18) rfl) (by decide) mi_fit_int (Or.inl rfl) ?_
  intro h4 S f
  replace fr := mi_Fm_tr fr f
  exact ty_s_ret S fr rfl rfl rfl rfl ⟨rfl, rfl⟩
theorem pr_readProgram {X : mi_X} {d : Nat} {σ : mi_Sg} {ts ts' : List Int} {l l' : Int → Int → List (Int × Int × Int)} (h0 : mi_sF σ 2 0 = 0) (h3 : mi_sF σ 3 7 ≤ 301) (hA : DS X (d + 6) mi_M70 (1 :: ts) l) (hR : RP X d 0 ts' l') (hts : ts' ≠ []) (T : tq σ 0 ((1 :: ts) ++ ts')) (hlen : (ts.length + 1 + ts'.length : Int) ≤ mi_sF σ 3 7) (hroom : ((l 0 0).length + (l' (ts.length + 1 : Int) ((l 0 0).length : Int)).length : Int) ≤ 1000) : ty_Cv X (d + 7) mi_M75 [(0, .ref 42), (1, .ref 26)] σ (fun σ' => ps26_Q (mi_uF (mi_uF (mi_uF σ 42 2 26) 26 7 0) 42 3 0) σ' ((1 :: ts) ++ ts').length (l 0 0 ++ l' (ts.length + 1 : Int) ((l 0 0).length : Int))) := by
  intro h S
  have fr := mi_Fm_rf h
  obtain ⟨Ta, Tb⟩ := tq_app T
  have hpos : 0 < ts'.length := List.length_pos_iff.mpr hts
  refine mi_wp_p (pc' := 1) (st' := [.ref 42]) rfl rfl rfl ?_
  refine mi_wp_p (pc' := 2) (st' := [.ref 26, .ref 42]) rfl rfl rfl ?_
  refine ty_s_cv rfl rfl rfl rfl rfl rfl (mi_cal_v2 (np := 1) (args := [.ref 42, .ref 26]) (rest := []) rfl rfl rfl rfl rfl (Nat.le_of_ble_eq_true rfl) rfl rfl (Nat.le_of_ble_eq_true rfl) (ty_rcS S (List.mem_of_getElem? (i := 18) rfl))) (Nat.le_of_ble_eq_true rfl) S pr26_start ?_
  intro hh σ1 S f P
  subst P
  have pw : pw26 (mi_uF (mi_uF (mi_uF σ 42 2 26) 26 7 0) 42 3 0) := ⟨h0, rfl, Int.le_refl _, h3, Int.le_refl _⟩
  replace fr := mi_Fm_tr fr f
  refine mi_wp_p (pc' := 6) (st' := [.ref 42]) rfl rfl rfl ?_
  refine ty_s_cv rfl rfl rfl rfl rfl rfl (mi_cal_v2 (np := 0) (args := [.ref 42]) (rest := []) rfl rfl rfl rfl rfl (Nat.le_of_ble_eq_true rfl) rfl rfl (Nat.le_of_ble_eq_true rfl) (ty_rcS S (List.mem_of_getElem? (i := 18) rfl))) (Nat.le_of_ble_eq_true rfl) S (hA (mi_uF (mi_uF (mi_uF σ 42 2 26) 26 7 0) 42 3 0) pw Ta (by show 0 + ((1 :: ts).length : Int) < mi_sF σ 3 7; simp only [List.length_cons]; omega) (by show 0 + ((l 0 0).length : Int) ≤ 1000; omega)) ?_
  intro hh σ2 S f P
  have ep : mi_sF σ2 42 3 = (ts.length + 1 : Int) := by have := P.2.1; rw [this]; show 0 + ((1 :: ts).length : Int) = _; simp only [List.length_cons]; omega
  have es : mi_sF σ2 26 7 = ((l 0 0).length : Int) := by have := P.2.2.1; rw [this]; show 0 + ((l 0 0).length : Int) = _; omega
  have p2 := ps26_pw P pw (by simp only [List.length_cons]; omega)
  have g7 : mi_sF σ2 3 7 = mi_sF σ 3 7 := (ps26_7 P).1
  replace fr := mi_Fm_tr fr f
  refine mi_wp_p (pc' := 10) (st' := [.int (Int32.ofInt 0)]) rfl rfl rfl ?_
  refine mi_wp_p (pc' := 11) (l' := [(2, .int (Int32.ofInt 0)), (0, .ref 42), (1, .ref 26)]) (st' := []) rfl rfl rfl ?_
  refine mi_wp_lw (l := [(2, .int (Int32.ofInt 0)), (0, .ref 42)]) (mi_lw_of (show List.Nodup [2, 0] by decide) ⟨rfl, rfl, trivial⟩) ?_
  have hr3 : mi_sF σ2 26 7 + (l' (mi_sF σ2 42 3) (mi_sF σ2 26 7)).length ≤ 1000 := by
    rw [ep, es]
    omega
  refine mi_wp_q (hR σ2 p2 (tq_ps26 P Tb (by rw [ep]; simp only [List.length_cons]; omega)) (by omega) hr3 _ _ S fr) (fun z hz => ?_)
  obtain ⟨v, h', σ', a1, a2, a3, a4, a5⟩ := hz
  rw [ep, es] at a5
  exact ⟨v, h', σ', a1, a2, a3, a4, ps26_eq (ps26_tr (Int.le_refl _) P a5) (by first | omega | (simp only [List.length_cons, List.length_append, List.length_nil]; omega)) rfl⟩
theorem pr_readQuestion {X : mi_X} {d : Nat} {σ : mi_Sg} (h0 : mi_sF σ 2 0 = 0) (h3 : mi_sF σ 3 7 ≤ 301) (T : tq σ 0 [13, 18]) (hlen : 2 ≤ mi_sF σ 3 7) : ty_Ci X (d + 11) mi_M76 [(0, .ref 42), (1, .ref 34)] σ (fun x σ' => x = 0 ∧ ps34_Q (mi_uF (mi_uF (mi_uF σ 42 2 34) 34 7 0) 42 3 0) σ' 2 [(21, 0, 0)]) := by
  intro h S
  have fr := mi_Fm_rf h
  refine mi_wp_p (pc' := 1) (st' := [.ref 42]) rfl rfl rfl ?_
  refine mi_wp_p (pc' := 2) (st' := [.ref 34, .ref 42]) rfl rfl rfl ?_
  refine ty_s_cv rfl rfl rfl rfl rfl rfl (mi_cal_v2 (np := 1) (args := [.ref 42, .ref 34]) (rest := []) rfl rfl rfl rfl rfl (Nat.le_of_ble_eq_true rfl) rfl rfl (Nat.le_of_ble_eq_true rfl) (ty_rcS S (List.mem_of_getElem? (i := 18) rfl))) (Nat.le_of_ble_eq_true rfl) S pr34_start ?_
  intro hh σ1 S f P
  subst P
  have pw : pw34 (mi_uF (mi_uF (mi_uF σ 42 2 34) 34 7 0) 42 3 0) := ⟨h0, rfl, Int.le_refl _, h3, Int.le_refl _⟩
  have T2 : tq (mi_uF (mi_uF (mi_uF σ 42 2 34) 34 7 0) 42 3 0) 0 [13] := fun i k hk => by
    match i, hk with
    | 0, hk => exact T 0 k hk
    | i + 1, hk => simp at hk
  replace fr := mi_Fm_tr fr f
  refine mi_wp_p (pc' := 6) (st' := [.ref 42]) rfl rfl rfl ?_
  refine mi_wp_p (pc' := 7) (st' := [.int (Int32.ofInt 0), .ref 42]) rfl rfl rfl ?_
  refine ty_s_ci rfl rfl rfl rfl rfl rfl (mi_cal_v2 (np := 1) (args := [.ref 42, .int (Int32.ofInt 0)]) (rest := []) rfl rfl rfl rfl rfl (Nat.le_of_ble_eq_true rfl) rfl rfl (Nat.le_of_ble_eq_true rfl) (ty_rcS S (List.mem_of_getElem? (i := 18) rfl))) (Nat.le_of_ble_eq_true rfl) S (pr34_name (d := d) (by omega) (mi_uF (mi_uF (mi_uF σ 42 2 34) 34 7 0) 42 3 0) 18 pw T2 (by show 0 + (([13] : List Int).length : Int) < mi_sF σ 3 7; simp only [List.length_cons, List.length_nil]; omega) (T 1 18 rfl) (by unfold fe; omega) (by show (0 : Int) + 1 ≤ 1000; omega)) ?_
  intro x hh σ2 S f P
  obtain ⟨e1, P1⟩ := P
  rw [e1]
  have p2 := ps34_pw P1 pw (by simp only [List.length_cons, List.length_nil]; omega)
  have g2 := ps34_7 P1
  have g3 : mi_sF σ2 42 3 = 1 := g2.2.1
  have g4 : mi_sF σ2 3 7 = mi_sF σ 3 7 := g2.1
  have hk : mi_sA σ2 5 (mi_sF σ2 42 3) = 18 := by
    rw [g3, P1.1.2.1 5 _ (by decide)]
    exact T 1 18 rfl
  replace fr := mi_Fm_tr fr f
  refine mi_wp_p (pc' := 11) (l' := [(2, .int (Int32.ofInt (mi_sF (mi_uF (mi_uF (mi_uF σ 42 2 34) 34 7 0) 42 3 0) 34 7))), (0, .ref 42), (1, .ref 34)]) (st' := []) rfl rfl rfl ?_
  refine mi_wp_p (pc' := 12) (st' := [.ref 42]) rfl rfl rfl ?_
  refine mi_s_k (pc' := 14) (e := 18) rfl rfl rfl (by decide +kernel) ?_
  refine ty_s_cv rfl rfl rfl rfl rfl rfl (mi_cal_v2 (np := 1) (args := [.ref 42, .int (Int32.ofInt 18)]) (rest := []) rfl rfl rfl rfl rfl (Nat.le_of_ble_eq_true rfl) rfl rfl (Nat.le_of_ble_eq_true rfl) (ty_rcS S (List.mem_of_getElem? (i := 18) rfl))) (Nat.le_of_ble_eq_true rfl) S (pr34_take p2.1 p2.2.2.1 (by omega) p2.2.2.2.1 hk (by omega)) ?_
  intro hh σ3 S f P3
  replace fr := mi_Fm_tr fr f
  refine mi_wp_p (pc' := 18) (st' := [.int (Int32.ofInt (mi_sF (mi_uF (mi_uF (mi_uF σ 42 2 34) 34 7 0) 42 3 0) 34 7))]) rfl rfl rfl ?_
  exact ty_s_ret S fr rfl rfl rfl (mi_ret_i rfl) ⟨_, rfl, rfl, ps34_eq (ps34_tr (Int.le_refl _) P1 P3) rfl rfl⟩
