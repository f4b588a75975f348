/-- what may follow an expression -/
def fe (k : Int) : Prop := k = 59 ∨ k = 44 ∨ k = 41 ∨ k = 3 ∨ k = 18
theorem tq_ps26 {σ σ1 : mi_Sg} {n p p' : Int} {l : List (Int × Int × Int)} {ts : List Int} (a : ps26_Q σ σ1 n l) (h : tq σ p ts) (e : p' = p) : tq σ1 p' ts := fun i k hk => by
  rw [a.1.2.1 5 _ (by decide), e]
  exact h i k hk
/-- a method that reads an expression of the kinds ts, adds the steps l and tells the step r -/
def ES26 (X : mi_X) (d : Nat) (M : mi_M) (dd : Int) (ts : List Int) (l : Int → Int → List (Int × Int × Int)) (r : Int → Int → Int) : Prop := ∀ (σ : mi_Sg) (kx : Int), pw26 σ → tq σ (mi_sF σ 42 3) ts → mi_sF σ 42 3 + ts.length < mi_sF σ 3 7 → mi_sA σ 5 (mi_sF σ 42 3 + ts.length) = kx → fe kx → mi_sF σ 26 7 + (l (mi_sF σ 42 3) (mi_sF σ 26 7)).length ≤ 1000 → ty_Ci X d M [(0, .ref 42), (1, .int (Int32.ofInt dd))] σ (fun x σ' => x = r (mi_sF σ 42 3) (mi_sF σ 26 7) ∧ ps26_Q σ σ' ts.length (l (mi_sF σ 42 3) (mi_sF σ 26 7)))
theorem pr26_atoms0 {X : mi_X} {d : Nat} {σ : mi_Sg} {w : Int} (h0 : mi_sF σ 2 0 = 0) (h1 : 0 ≤ mi_sF σ 42 3) (h2 : mi_sF σ 42 3 < mi_sF σ 3 7) (h3 : mi_sF σ 3 7 ≤ 301) (hk : mi_sA σ 5 (mi_sF σ 42 3) = w) (hw : fe w) (hr : 0 ≤ w) : ty_Ci X (d + 2) mi_M80 [(0, .ref 42)] σ (fun x σ' => x = 0 ∧ σ' = σ) := by
  rcases hw with rfl | rfl | rfl | rfl | rfl
  · intro h S
    have fr := mi_Fm_rf h
    refine mi_wp_p (pc' := 1) (st' := [.ref 42]) rfl rfl rfl ?_
    refine ty_s_ci rfl rfl rfl rfl rfl rfl (mi_cal_v2 (np := 0) (args := [.ref 42]) (rest := []) rfl rfl rfl rfl rfl (Nat.le_of_ble_eq_true rfl) rfl rfl (Nat.le_of_ble_eq_true rfl) (ty_rcS S (List.mem_of_getElem? (i := 18) rfl))) (Nat.le_of_ble_eq_true rfl) S (pr26_kind h0 h1 h2 h3 hk) ?_
    intro x hh σu S f P
    obtain ⟨e1, e2⟩ := P
    rw [e2] at S
    rw [e1]
    clear e1 e2
    replace fr := mi_Fm_tr fr f
    refine mi_wp_p (pc' := 66) (l' := [(0, .ref 42)]) (st' := []) rfl rfl rfl ?_
    refine mi_wp_p (pc' := 67) (st' := [.int (Int32.ofInt 0)]) rfl rfl rfl ?_
    exact ty_s_ret S fr rfl rfl rfl rfl ⟨_, rfl, rfl, rfl⟩
  · intro h S
    have fr := mi_Fm_rf h
    refine mi_wp_p (pc' := 1) (st' := [.ref 42]) rfl rfl rfl ?_
    refine ty_s_ci rfl rfl rfl rfl rfl rfl (mi_cal_v2 (np := 0) (args := [.ref 42]) (rest := []) rfl rfl rfl rfl rfl (Nat.le_of_ble_eq_true rfl) rfl rfl (Nat.le_of_ble_eq_true rfl) (ty_rcS S (List.mem_of_getElem? (i := 18) rfl))) (Nat.le_of_ble_eq_true rfl) S (pr26_kind h0 h1 h2 h3 hk) ?_
    intro x hh σu S f P
    obtain ⟨e1, e2⟩ := P
    rw [e2] at S
    rw [e1]
    clear e1 e2
    replace fr := mi_Fm_tr fr f
    refine mi_wp_p (pc' := 66) (l' := [(0, .ref 42)]) (st' := []) rfl rfl rfl ?_
    refine mi_wp_p (pc' := 67) (st' := [.int (Int32.ofInt 0)]) rfl rfl rfl ?_
    exact ty_s_ret S fr rfl rfl rfl rfl ⟨_, rfl, rfl, rfl⟩
  · intro h S
    have fr := mi_Fm_rf h
    refine mi_wp_p (pc' := 1) (st' := [.ref 42]) rfl rfl rfl ?_
    refine ty_s_ci rfl rfl rfl rfl rfl rfl (mi_cal_v2 (np := 0) (args := [.ref 42]) (rest := []) rfl rfl rfl rfl rfl (Nat.le_of_ble_eq_true rfl) rfl rfl (Nat.le_of_ble_eq_true rfl) (ty_rcS S (List.mem_of_getElem? (i := 18) rfl))) (Nat.le_of_ble_eq_true rfl) S (pr26_kind h0 h1 h2 h3 hk) ?_
    intro x hh σu S f P
    obtain ⟨e1, e2⟩ := P
    rw [e2] at S
    rw [e1]
    clear e1 e2
    replace fr := mi_Fm_tr fr f
    refine mi_wp_p (pc' := 66) (l' := [(0, .ref 42)]) (st' := []) rfl rfl rfl ?_
    refine mi_wp_p (pc' := 67) (st' := [.int (Int32.ofInt 0)]) rfl rfl rfl ?_
    exact ty_s_ret S fr rfl rfl rfl rfl ⟨_, rfl, rfl, rfl⟩
  · intro h S
    have fr := mi_Fm_rf h
    refine mi_wp_p (pc' := 1) (st' := [.ref 42]) rfl rfl rfl ?_
    refine ty_s_ci rfl rfl rfl rfl rfl rfl (mi_cal_v2 (np := 0) (args := [.ref 42]) (rest := []) rfl rfl rfl rfl rfl (Nat.le_of_ble_eq_true rfl) rfl rfl (Nat.le_of_ble_eq_true rfl) (ty_rcS S (List.mem_of_getElem? (i := 18) rfl))) (Nat.le_of_ble_eq_true rfl) S (pr26_kind h0 h1 h2 h3 hk) ?_
    intro x hh σu S f P
    obtain ⟨e1, e2⟩ := P
    rw [e2] at S
    rw [e1]
    clear e1 e2
    replace fr := mi_Fm_tr fr f
    refine mi_wp_p (pc' := 66) (l' := [(0, .ref 42)]) (st' := []) rfl rfl rfl ?_
    refine mi_wp_p (pc' := 67) (st' := [.int (Int32.ofInt 0)]) rfl rfl rfl ?_
    exact ty_s_ret S fr rfl rfl rfl rfl ⟨_, rfl, rfl, rfl⟩
  · intro h S
    have fr := mi_Fm_rf h
    refine mi_wp_p (pc' := 1) (st' := [.ref 42]) rfl rfl rfl ?_
    refine ty_s_ci rfl rfl rfl rfl rfl rfl (mi_cal_v2 (np := 0) (args := [.ref 42]) (rest := []) rfl rfl rfl rfl rfl (Nat.le_of_ble_eq_true rfl) rfl rfl (Nat.le_of_ble_eq_true rfl) (ty_rcS S (List.mem_of_getElem? (i := 18) rfl))) (Nat.le_of_ble_eq_true rfl) S (pr26_kind h0 h1 h2 h3 hk) ?_
    intro x hh σu S f P
    obtain ⟨e1, e2⟩ := P
    rw [e2] at S
    rw [e1]
    clear e1 e2
    replace fr := mi_Fm_tr fr f
    refine mi_wp_p (pc' := 66) (l' := [(0, .ref 42)]) (st' := []) rfl rfl rfl ?_
    refine mi_wp_p (pc' := 67) (st' := [.int (Int32.ofInt 0)]) rfl rfl rfl ?_
    exact ty_s_ret S fr rfl rfl rfl rfl ⟨_, rfl, rfl, rfl⟩
theorem pr26_single {X : mi_X} {d : Nat} {σ : mi_Sg} (pw : pw26 σ) (hs : mi_sF σ 26 7 ≤ 1000) (h2 : mi_sF σ 42 3 + 1 ≤ mi_sF σ 3 7) (hk : mi_sA σ 5 (mi_sF σ 42 3) = 13) : ty_Ci X (d + 4) mi_M78 [(0, .ref 42), (1, .int (Int32.ofInt 21)), (2, .int (Int32.ofInt (mi_sF σ 42 3)))] σ (fun x σ' => x = mi_sF σ 26 7 ∧ ps26_Q σ σ' 1 [(21, mi_sF σ 42 3, 0)]) := by
  intro h S
  have fr := mi_Fm_rf h
  have A0 := ps26_rf (σ := σ)
  have pw0 := pw
  obtain ⟨q1, q2, q3, q4, q5⟩ := pw0
  have t0 : mi_sA σ 5 (mi_sF σ 42 3 + 0) = 13 := by rw [Int.add_zero]; exact hk
  refine mi_wp_p (pc' := 1) (st' := [.ref 42]) rfl rfl rfl ?_
  refine mi_wp_p (pc' := 2) (st' := [.ref 42, .ref 42]) rfl rfl rfl ?_
  refine ty_s_ci rfl rfl rfl rfl rfl rfl (mi_cal_v2 (np := 0) (args := [.ref 42]) (rest := [.ref 42]) rfl rfl rfl rfl rfl (Nat.le_of_ble_eq_true rfl) rfl rfl (Nat.le_of_ble_eq_true rfl) (ty_rcS S (List.mem_of_getElem? (i := 18) rfl))) (Nat.le_of_ble_eq_true rfl) S (pr26_kind (σ := σ) pw.1 pw.2.2.1 (by omega) pw.2.2.2.1 (ps26_k A0 t0 (by first | omega | (simp only [List.length_cons, List.length_append, List.length_nil]; omega)))) ?_
  intro x hh σu S f P
  obtain ⟨e1, e2⟩ := P
  rw [e2] at S
  rw [e1]
  clear e1 e2
  replace fr := mi_Fm_tr fr f
  refine ty_s_cv rfl rfl rfl rfl rfl rfl (mi_cal_v2 (np := 1) (args := [.ref 42, .int (Int32.ofInt 13)]) (rest := []) rfl rfl rfl rfl rfl (Nat.le_of_ble_eq_true rfl) rfl rfl (Nat.le_of_ble_eq_true rfl) (ty_rcS S (List.mem_of_getElem? (i := 18) rfl))) (Nat.le_of_ble_eq_true rfl) S (pr26_take (σ := σ) pw.1 pw.2.2.1 (by omega) pw.2.2.2.1 (ps26_k A0 t0 (by first | omega | (simp only [List.length_cons, List.length_append, List.length_nil]; omega))) (by omega)) ?_
  intro hh σ1 S f P1
  have A1 := ps26_tr pw.2.2.2.2 A0 P1
  have pw1 := ps26_pw A1 pw (by omega)
  have g1 := ps26_7 A1
  try simp only [List.length_append, List.length_cons, List.length_nil] at g1
  replace fr := mi_Fm_tr fr f
  refine mi_wp_p (pc' := 9) (st' := [.ref 42]) rfl rfl rfl ?_
  refine mi_wp_p (pc' := 10) (st' := [.int (Int32.ofInt 21), .ref 42]) rfl rfl rfl ?_
  refine mi_wp_p (pc' := 11) (st' := [.int (Int32.ofInt (mi_sF σ 42 3)), .int (Int32.ofInt 21), .ref 42]) rfl rfl rfl ?_
  refine mi_wp_p (pc' := 12) (st' := [.int (Int32.ofInt 0), .int (Int32.ofInt (mi_sF σ 42 3)), .int (Int32.ofInt 21), .ref 42]) rfl rfl rfl ?_
  refine mi_wp_p (pc' := 13) (st' := [.int (Int32.ofInt (mi_sF σ 42 3)), .int (Int32.ofInt 0), .int (Int32.ofInt (mi_sF σ 42 3)), .int (Int32.ofInt 21), .ref 42]) rfl rfl rfl ?_
  refine ty_s_ci rfl rfl rfl rfl rfl rfl (mi_cal_v2 (np := 4) (args := [.ref 42, .int (Int32.ofInt 21), .int (Int32.ofInt (mi_sF σ 42 3)), .int (Int32.ofInt 0), .int (Int32.ofInt (mi_sF σ 42 3))]) (rest := []) rfl rfl rfl rfl rfl (Nat.le_of_ble_eq_true rfl) rfl rfl (Nat.le_of_ble_eq_true rfl) (ty_rcS S (List.mem_of_getElem? (i := 18) rfl))) (Nat.le_of_ble_eq_true rfl) S (pr26_addExpression (σ := σ1) pw1 (by omega) (by omega) (by omega) (by omega)) ?_
  intro x hh σ2 S f P0
  obtain ⟨e1, P2⟩ := P0
  rw [e1]
  clear e1
  have A2 := ps26_tr pw.2.2.2.2 A1 P2
  have pw2 := ps26_pw A2 pw (by omega)
  have g2 := ps26_7 A2
  try simp only [List.length_append, List.length_cons, List.length_nil] at g2
  replace fr := mi_Fm_tr fr f
  exact ty_s_ret S fr rfl rfl rfl (mi_ret_i rfl) ⟨_, rfl, (by first | omega | (simp only [List.length_cons, List.length_append, List.length_nil]; omega)), ps26_eq A2 (by first | omega | (simp only [List.length_cons, List.length_append, List.length_nil]; omega)) (by first | rfl | simp only [g1.2.1, g2.2.1, List.nil_append, List.append_nil, List.append_assoc, List.cons_append, Int.add_zero, Int.zero_add, Int.add_assoc, Int.reduceAdd])⟩
theorem pr26_atom_name {X : mi_X} {d : Nat} {dd : Int}   : ES26 X (d + 5) mi_M61 dd [13] (fun p s => [(21, p, 0)]) (fun p s => s) := by
  intro σ kx pw T hlen hkx hfe hroom h S
  have fr := mi_Fm_rf h
  have A0 := ps26_rf (σ := σ)
  have pw0 := pw
  obtain ⟨q1, q2, q3, q4, q5⟩ := pw0
  have fkx : 0 ≤ kx ∧ kx ≤ 59 ∧ kx ≠ 42 ∧ kx ≠ 43 ∧ kx ≠ 45 := by unfold fe at hfe; omega
  try simp only [List.length_cons, List.length_append, List.length_nil] at hlen
  try simp only [List.length_cons, List.length_append, List.length_nil] at hroom
  obtain ⟨t0, T1⟩ := tq_cons T
  refine mi_wp_p (pc' := 1) (st' := [.ref 42]) rfl rfl rfl ?_
  refine ty_s_gf (x := mi_sF σ 42 3) S rfl rfl rfl (List.mem_of_getElem? (i := 18) rfl) rfl ?_
  refine mi_wp_p (pc' := 5) (l' := [(2, .int (Int32.ofInt (mi_sF σ 42 3))), (0, .ref 42), (1, .int (Int32.ofInt dd))]) (st' := []) rfl rfl rfl ?_
  refine mi_wp_p (pc' := 6) (st' := [.ref 42]) rfl rfl rfl ?_
  refine ty_s_ci rfl rfl rfl rfl rfl rfl (mi_cal_v2 (np := 0) (args := [.ref 42]) (rest := []) rfl rfl rfl rfl rfl (Nat.le_of_ble_eq_true rfl) rfl rfl (Nat.le_of_ble_eq_true rfl) (ty_rcS S (List.mem_of_getElem? (i := 18) rfl))) (Nat.le_of_ble_eq_true rfl) S (pr26_kind (σ := σ) pw.1 pw.2.2.1 (by omega) pw.2.2.2.1 (ps26_k A0 t0 (by first | omega | (simp only [List.length_cons, List.length_append, List.length_nil]; omega)))) ?_
  intro x hh σu S f P
  obtain ⟨e1, e2⟩ := P
  rw [e2] at S
  rw [e1]
  clear e1 e2
  replace fr := mi_Fm_tr fr f
  refine mi_wp_p (pc' := 76) (l' := [(2, .int (Int32.ofInt (mi_sF σ 42 3))), (0, .ref 42), (1, .int (Int32.ofInt dd))]) (st' := []) rfl rfl rfl ?_
  refine mi_wp_p (pc' := 77) (st' := [.ref 42]) rfl rfl rfl ?_
  refine mi_s_k (pc' := 79) (e := 21) rfl rfl rfl (by decide +kernel) ?_
  refine mi_wp_p (pc' := 80) (st' := [.int (Int32.ofInt (mi_sF σ 42 3)), .int (Int32.ofInt 21), .ref 42]) rfl rfl rfl ?_
  refine ty_s_ci rfl rfl rfl rfl rfl rfl (mi_cal_v2 (np := 2) (args := [.ref 42, .int (Int32.ofInt 21), .int (Int32.ofInt (mi_sF σ 42 3))]) (rest := []) rfl rfl rfl rfl rfl (Nat.le_of_ble_eq_true rfl) rfl rfl (Nat.le_of_ble_eq_true rfl) (ty_rcS S (List.mem_of_getElem? (i := 18) rfl))) (Nat.le_of_ble_eq_true rfl) S (pr26_single (σ := σ) pw (by omega) (by omega) (by rw [← t0, Int.add_zero])) ?_
  intro x hh σ1 S f P0
  obtain ⟨e1, P1⟩ := P0
  rw [e1]
  clear e1
  have A1 := ps26_tr pw.2.2.2.2 A0 P1
  have pw1 := ps26_pw A1 pw (by omega)
  have g1 := ps26_7 A1
  try simp only [List.length_append, List.length_cons, List.length_nil] at g1
  replace fr := mi_Fm_tr fr f
  exact ty_s_ret S fr rfl rfl rfl (mi_ret_i rfl) ⟨_, rfl, (by first | rfl | (simp only [Int.add_zero]; done) | (dsimp only; omega) | (dsimp only; simp only [List.length_cons, List.length_append, List.length_nil]; omega)), ps26_eq A1 (by first | omega | (simp only [List.length_cons, List.length_append, List.length_nil]; omega)) (by first | rfl | simp only [g1.2.1, List.nil_append, List.append_nil, List.append_assoc, List.cons_append, Int.add_zero, Int.zero_add, Int.add_assoc, Int.reduceAdd])⟩
theorem pr26_call {X : mi_X} {d : Nat} {dd : Int} {ts : List Int} {l : Int → Int → List (Int × Int × Int)} {r : Int → Int → Int} (hA : ES26 X (d + 5) mi_M61 dd ts l r) : ES26 X (d + 6) mi_M63 dd ts (fun p s => l p s) (fun p s => r p s) := by
  intro σ kx pw T hlen hkx hfe hroom h S
  have fr := mi_Fm_rf h
  have A0 := ps26_rf (σ := σ)
  have pw0 := pw
  obtain ⟨q1, q2, q3, q4, q5⟩ := pw0
  have fkx : 0 ≤ kx ∧ kx ≤ 59 ∧ kx ≠ 42 ∧ kx ≠ 43 ∧ kx ≠ 45 := by unfold fe at hfe; omega
  try simp only [List.length_cons, List.length_append, List.length_nil] at hlen
  try simp only [List.length_cons, List.length_append, List.length_nil] at hroom
  have T0 := T
  refine mi_wp_p (pc' := 1) (st' := [.ref 42]) rfl rfl rfl ?_
  refine ty_s_gf (x := mi_sF σ 42 3) S rfl rfl rfl (List.mem_of_getElem? (i := 18) rfl) rfl ?_
  refine mi_wp_p (pc' := 5) (l' := [(2, .int (Int32.ofInt (mi_sF σ 42 3))), (0, .ref 42), (1, .int (Int32.ofInt dd))]) (st' := []) rfl rfl rfl ?_
  refine mi_wp_p (pc' := 6) (st' := [.ref 42]) rfl rfl rfl ?_
  refine mi_wp_p (pc' := 7) (st' := [.int (Int32.ofInt dd), .ref 42]) rfl rfl rfl ?_
  have ep1 : mi_sF σ 42 3 = mi_sF σ 42 3 := by omega
  have es1 : mi_sF σ 26 7 = mi_sF σ 26 7 := (by first | omega | (simp only [List.length_cons, List.length_append, List.length_nil]; omega))
  have Tk1 := tq_ps26 (p' := mi_sF σ 42 3) A0 T0 (by omega)
  have hn1 : mi_sA σ 5 (mi_sF σ 42 3 + (((ts).length : Int))) = kx := ps26_k2 A0 hkx (by first | omega | (simp only [List.length_cons, List.length_append, List.length_nil]; omega))
  have hr1 : mi_sF σ 26 7 + (l (mi_sF σ 42 3) (mi_sF σ 26 7)).length ≤ 1000 := by
    try rw [ep1, es1]
    omega
  refine ty_s_ci rfl rfl rfl rfl rfl rfl (mi_cal_v2 (np := 1) (args := [.ref 42, .int (Int32.ofInt dd)]) (rest := []) rfl rfl rfl rfl rfl (Nat.le_of_ble_eq_true rfl) rfl rfl (Nat.le_of_ble_eq_true rfl) (ty_rcS S (List.mem_of_getElem? (i := 18) rfl))) (Nat.le_of_ble_eq_true rfl) S (hA σ kx pw Tk1 (by first | omega | (simp only [List.length_cons, List.length_append, List.length_nil]; omega)) hn1 hfe hr1) ?_
  intro x1 hh σ1 S f P0
  obtain ⟨e1, P1⟩ := P0
  try rw [ep1, es1] at P1 e1
  rw [e1]
  clear e1
  have A1 := ps26_tr pw.2.2.2.2 A0 P1
  have pw1 := ps26_pw A1 pw (by omega)
  have g1 := ps26_7 A1
  try simp only [List.length_append, List.length_cons, List.length_nil] at g1
  replace fr := mi_Fm_tr fr f
  refine mi_wp_p (pc' := 11) (l' := [(3, .int (Int32.ofInt (r (mi_sF σ 42 3) (mi_sF σ 26 7)))), (2, .int (Int32.ofInt (mi_sF σ 42 3))), (0, .ref 42), (1, .int (Int32.ofInt dd))]) (st' := []) rfl rfl rfl ?_
  refine mi_wp_p (pc' := 12) (st' := [.int (Int32.ofInt 0)]) rfl rfl rfl ?_
  refine mi_wp_p (pc' := 14) (l' := [(4, .int (Int32.ofInt 0)), (3, .int (Int32.ofInt (r (mi_sF σ 42 3) (mi_sF σ 26 7)))), (2, .int (Int32.ofInt (mi_sF σ 42 3))), (0, .ref 42), (1, .int (Int32.ofInt dd))]) (st' := []) rfl rfl rfl ?_
  refine mi_wp_p (pc' := 16) (st' := [.int (Int32.ofInt 0)]) rfl rfl rfl ?_
  refine mi_s_k (pc' := 19) (e := 300) rfl rfl rfl (by decide +kernel) ?_
  refine mi_s_if2 (t := 53) rfl rfl rfl (by unfold mi_R; omega) (by unfold mi_R; omega) (fun hc_ => absurd (show 300 ≤ (0 : Int) from hc_) (by omega)) (fun _ => ?_)
  refine mi_wp_p (pc' := 23) (st' := [.ref 42]) rfl rfl rfl ?_
  refine ty_s_ci rfl rfl rfl rfl rfl rfl (mi_cal_v2 (np := 0) (args := [.ref 42]) (rest := []) rfl rfl rfl rfl rfl (Nat.le_of_ble_eq_true rfl) rfl rfl (Nat.le_of_ble_eq_true rfl) (ty_rcS S (List.mem_of_getElem? (i := 18) rfl))) (Nat.le_of_ble_eq_true rfl) S (pr26_atoms0 (σ := σ1) pw1.1 pw1.2.2.1 (by omega) pw1.2.2.2.1 (ps26_k A1 hkx (by first | omega | (simp only [List.length_cons, List.length_append, List.length_nil]; omega))) hfe (by omega)) ?_
  intro x hh σu S f P
  obtain ⟨e1, e2⟩ := P
  rw [e2] at S
  rw [e1]
  clear e1 e2
  replace fr := mi_Fm_tr fr f
  refine mi_s_if1 (t := 53) rfl rfl rfl (by unfold mi_R; omega) (fun _ => ?_) (fun hc_ => absurd (show (0 : Int) = 0 by omega) hc_)
  refine mi_wp_p (pc' := 54) (st' := [.int (Int32.ofInt (r (mi_sF σ 42 3) (mi_sF σ 26 7)))]) rfl rfl rfl ?_
  exact ty_s_ret S fr rfl rfl rfl (mi_ret_i rfl) ⟨_, rfl, (by first | rfl | (simp only [Int.add_zero]; done) | (dsimp only; omega) | (dsimp only; simp only [List.length_cons, List.length_append, List.length_nil]; omega)), ps26_eq A1 (by first | omega | (simp only [List.length_cons, List.length_append, List.length_nil]; omega)) (by first | rfl | simp only [g1.2.1, List.nil_append, List.append_nil, List.append_assoc, List.cons_append, Int.add_zero, Int.zero_add, Int.add_assoc, Int.reduceAdd])⟩
theorem pr26_product {X : mi_X} {d : Nat} {dd : Int} {ts : List Int} {l : Int → Int → List (Int × Int × Int)} {r : Int → Int → Int} (hA : ES26 X (d + 6) mi_M63 dd ts l r) : ES26 X (d + 7) mi_M74 dd ts (fun p s => l p s) (fun p s => r p s) := by
  intro σ kx pw T hlen hkx hfe hroom h S
  have fr := mi_Fm_rf h
  have A0 := ps26_rf (σ := σ)
  have pw0 := pw
  obtain ⟨q1, q2, q3, q4, q5⟩ := pw0
  have fkx : 0 ≤ kx ∧ kx ≤ 59 ∧ kx ≠ 42 ∧ kx ≠ 43 ∧ kx ≠ 45 := by unfold fe at hfe; omega
  try simp only [List.length_cons, List.length_append, List.length_nil] at hlen
  try simp only [List.length_cons, List.length_append, List.length_nil] at hroom
  have T0 := T
  refine mi_wp_p (pc' := 1) (st' := [.ref 42]) rfl rfl rfl ?_
  refine ty_s_gf (x := mi_sF σ 42 3) S rfl rfl rfl (List.mem_of_getElem? (i := 18) rfl) rfl ?_
  refine mi_wp_p (pc' := 5) (l' := [(2, .int (Int32.ofInt (mi_sF σ 42 3))), (0, .ref 42), (1, .int (Int32.ofInt dd))]) (st' := []) rfl rfl rfl ?_
  refine mi_wp_p (pc' := 6) (st' := [.ref 42]) rfl rfl rfl ?_
  refine mi_wp_p (pc' := 7) (st' := [.int (Int32.ofInt dd), .ref 42]) rfl rfl rfl ?_
  have ep1 : mi_sF σ 42 3 = mi_sF σ 42 3 := by omega
  have es1 : mi_sF σ 26 7 = mi_sF σ 26 7 := (by first | omega | (simp only [List.length_cons, List.length_append, List.length_nil]; omega))
  have Tk1 := tq_ps26 (p' := mi_sF σ 42 3) A0 T0 (by omega)
  have hn1 : mi_sA σ 5 (mi_sF σ 42 3 + (((ts).length : Int))) = kx := ps26_k2 A0 hkx (by first | omega | (simp only [List.length_cons, List.length_append, List.length_nil]; omega))
  have hr1 : mi_sF σ 26 7 + (l (mi_sF σ 42 3) (mi_sF σ 26 7)).length ≤ 1000 := by
    try rw [ep1, es1]
    omega
  refine ty_s_ci rfl rfl rfl rfl rfl rfl (mi_cal_v2 (np := 1) (args := [.ref 42, .int (Int32.ofInt dd)]) (rest := []) rfl rfl rfl rfl rfl (Nat.le_of_ble_eq_true rfl) rfl rfl (Nat.le_of_ble_eq_true rfl) (ty_rcS S (List.mem_of_getElem? (i := 18) rfl))) (Nat.le_of_ble_eq_true rfl) S (hA σ kx pw Tk1 (by first | omega | (simp only [List.length_cons, List.length_append, List.length_nil]; omega)) hn1 hfe hr1) ?_
  intro x1 hh σ1 S f P0
  obtain ⟨e1, P1⟩ := P0
  try rw [ep1, es1] at P1 e1
  rw [e1]
  clear e1
  have A1 := ps26_tr pw.2.2.2.2 A0 P1
  have pw1 := ps26_pw A1 pw (by omega)
  have g1 := ps26_7 A1
  try simp only [List.length_append, List.length_cons, List.length_nil] at g1
  replace fr := mi_Fm_tr fr f
  refine mi_wp_p (pc' := 11) (l' := [(3, .int (Int32.ofInt (r (mi_sF σ 42 3) (mi_sF σ 26 7)))), (2, .int (Int32.ofInt (mi_sF σ 42 3))), (0, .ref 42), (1, .int (Int32.ofInt dd))]) (st' := []) rfl rfl rfl ?_
  refine mi_wp_p (pc' := 12) (st' := [.int (Int32.ofInt 0)]) rfl rfl rfl ?_
  refine mi_wp_p (pc' := 14) (l' := [(4, .int (Int32.ofInt 0)), (3, .int (Int32.ofInt (r (mi_sF σ 42 3) (mi_sF σ 26 7)))), (2, .int (Int32.ofInt (mi_sF σ 42 3))), (0, .ref 42), (1, .int (Int32.ofInt dd))]) (st' := []) rfl rfl rfl ?_
  refine mi_wp_p (pc' := 16) (st' := [.int (Int32.ofInt 0)]) rfl rfl rfl ?_
  refine mi_s_k (pc' := 19) (e := 300) rfl rfl rfl (by decide +kernel) ?_
  refine mi_s_if2 (t := 71) rfl rfl rfl (by unfold mi_R; omega) (by unfold mi_R; omega) (fun hc_ => absurd (show 300 ≤ (0 : Int) from hc_) (by omega)) (fun _ => ?_)
  refine mi_wp_p (pc' := 23) (st' := [.ref 42]) rfl rfl rfl ?_
  refine ty_s_ci rfl rfl rfl rfl rfl rfl (mi_cal_v2 (np := 0) (args := [.ref 42]) (rest := []) rfl rfl rfl rfl rfl (Nat.le_of_ble_eq_true rfl) rfl rfl (Nat.le_of_ble_eq_true rfl) (ty_rcS S (List.mem_of_getElem? (i := 18) rfl))) (Nat.le_of_ble_eq_true rfl) S (pr26_kind (σ := σ1) pw1.1 pw1.2.2.1 (by omega) pw1.2.2.2.1 (ps26_k A1 hkx (by first | omega | (simp only [List.length_cons, List.length_append, List.length_nil]; omega)))) ?_
  intro x hh σu S f P
  obtain ⟨e1, e2⟩ := P
  rw [e2] at S
  rw [e1]
  clear e1 e2
  replace fr := mi_Fm_tr fr f
  refine mi_s_k (pc' := 28) (e := 42) rfl rfl rfl (by decide +kernel) ?_
  refine mi_s_if2 (t := 71) rfl rfl rfl (by unfold mi_R; omega) (by unfold mi_R; omega) (fun _ => ?_) (fun hc_ => absurd (show kx ≠ 42 by omega) hc_)
  refine mi_wp_p (pc' := 72) (st' := [.int (Int32.ofInt (r (mi_sF σ 42 3) (mi_sF σ 26 7)))]) rfl rfl rfl ?_
  exact ty_s_ret S fr rfl rfl rfl (mi_ret_i rfl) ⟨_, rfl, (by first | rfl | (simp only [Int.add_zero]; done) | (dsimp only; omega) | (dsimp only; simp only [List.length_cons, List.length_append, List.length_nil]; omega)), ps26_eq A1 (by first | omega | (simp only [List.length_cons, List.length_append, List.length_nil]; omega)) (by first | rfl | simp only [g1.2.1, List.nil_append, List.append_nil, List.append_assoc, List.cons_append, Int.add_zero, Int.zero_add, Int.add_assoc, Int.reduceAdd])⟩
theorem pr26_sum {X : mi_X} {d : Nat} {dd : Int} {ts : List Int} {l : Int → Int → List (Int × Int × Int)} {r : Int → Int → Int} (hA : ES26 X (d + 7) mi_M74 dd ts l r) : ES26 X (d + 8) mi_M82 dd ts (fun p s => l p s) (fun p s => r p s) := by
  intro σ kx pw T hlen hkx hfe hroom h S
  have fr := mi_Fm_rf h
  have A0 := ps26_rf (σ := σ)
  have pw0 := pw
  obtain ⟨q1, q2, q3, q4, q5⟩ := pw0
  have fkx : 0 ≤ kx ∧ kx ≤ 59 ∧ kx ≠ 42 ∧ kx ≠ 43 ∧ kx ≠ 45 := by unfold fe at hfe; omega
  try simp only [List.length_cons, List.length_append, List.length_nil] at hlen
  try simp only [List.length_cons, List.length_append, List.length_nil] at hroom
  have T0 := T
  refine mi_wp_p (pc' := 1) (st' := [.ref 42]) rfl rfl rfl ?_
  refine ty_s_gf (x := mi_sF σ 42 3) S rfl rfl rfl (List.mem_of_getElem? (i := 18) rfl) rfl ?_
  refine mi_wp_p (pc' := 5) (l' := [(2, .int (Int32.ofInt (mi_sF σ 42 3))), (0, .ref 42), (1, .int (Int32.ofInt dd))]) (st' := []) rfl rfl rfl ?_
  refine mi_wp_p (pc' := 6) (st' := [.ref 42]) rfl rfl rfl ?_
  refine mi_wp_p (pc' := 7) (st' := [.int (Int32.ofInt dd), .ref 42]) rfl rfl rfl ?_
  have ep1 : mi_sF σ 42 3 = mi_sF σ 42 3 := by omega
  have es1 : mi_sF σ 26 7 = mi_sF σ 26 7 := (by first | omega | (simp only [List.length_cons, List.length_append, List.length_nil]; omega))
  have Tk1 := tq_ps26 (p' := mi_sF σ 42 3) A0 T0 (by omega)
  have hn1 : mi_sA σ 5 (mi_sF σ 42 3 + (((ts).length : Int))) = kx := ps26_k2 A0 hkx (by first | omega | (simp only [List.length_cons, List.length_append, List.length_nil]; omega))
  have hr1 : mi_sF σ 26 7 + (l (mi_sF σ 42 3) (mi_sF σ 26 7)).length ≤ 1000 := by
    try rw [ep1, es1]
    omega
  refine ty_s_ci rfl rfl rfl rfl rfl rfl (mi_cal_v2 (np := 1) (args := [.ref 42, .int (Int32.ofInt dd)]) (rest := []) rfl rfl rfl rfl rfl (Nat.le_of_ble_eq_true rfl) rfl rfl (Nat.le_of_ble_eq_true rfl) (ty_rcS S (List.mem_of_getElem? (i := 18) rfl))) (Nat.le_of_ble_eq_true rfl) S (hA σ kx pw Tk1 (by first | omega | (simp only [List.length_cons, List.length_append, List.length_nil]; omega)) hn1 hfe hr1) ?_
  intro x1 hh σ1 S f P0
  obtain ⟨e1, P1⟩ := P0
  try rw [ep1, es1] at P1 e1
  rw [e1]
  clear e1
  have A1 := ps26_tr pw.2.2.2.2 A0 P1
  have pw1 := ps26_pw A1 pw (by omega)
  have g1 := ps26_7 A1
  try simp only [List.length_append, List.length_cons, List.length_nil] at g1
  replace fr := mi_Fm_tr fr f
  refine mi_wp_p (pc' := 11) (l' := [(3, .int (Int32.ofInt (r (mi_sF σ 42 3) (mi_sF σ 26 7)))), (2, .int (Int32.ofInt (mi_sF σ 42 3))), (0, .ref 42), (1, .int (Int32.ofInt dd))]) (st' := []) rfl rfl rfl ?_
  refine mi_wp_p (pc' := 12) (st' := [.int (Int32.ofInt 0)]) rfl rfl rfl ?_
  refine mi_wp_p (pc' := 14) (l' := [(4, .int (Int32.ofInt 0)), (3, .int (Int32.ofInt (r (mi_sF σ 42 3) (mi_sF σ 26 7)))), (2, .int (Int32.ofInt (mi_sF σ 42 3))), (0, .ref 42), (1, .int (Int32.ofInt dd))]) (st' := []) rfl rfl rfl ?_
  refine mi_wp_p (pc' := 16) (st' := [.int (Int32.ofInt 0)]) rfl rfl rfl ?_
  refine mi_s_k (pc' := 19) (e := 300) rfl rfl rfl (by decide +kernel) ?_
  refine mi_s_if2 (t := 82) rfl rfl rfl (by unfold mi_R; omega) (by unfold mi_R; omega) (fun hc_ => absurd (show 300 ≤ (0 : Int) from hc_) (by omega)) (fun _ => ?_)
  refine mi_wp_p (pc' := 23) (st' := [.ref 42]) rfl rfl rfl ?_
  refine ty_s_ci rfl rfl rfl rfl rfl rfl (mi_cal_v2 (np := 0) (args := [.ref 42]) (rest := []) rfl rfl rfl rfl rfl (Nat.le_of_ble_eq_true rfl) rfl rfl (Nat.le_of_ble_eq_true rfl) (ty_rcS S (List.mem_of_getElem? (i := 18) rfl))) (Nat.le_of_ble_eq_true rfl) S (pr26_kind (σ := σ1) pw1.1 pw1.2.2.1 (by omega) pw1.2.2.2.1 (ps26_k A1 hkx (by first | omega | (simp only [List.length_cons, List.length_append, List.length_nil]; omega)))) ?_
  intro x hh σu S f P
  obtain ⟨e1, e2⟩ := P
  rw [e2] at S
  rw [e1]
  clear e1 e2
  replace fr := mi_Fm_tr fr f
  refine mi_s_k (pc' := 28) (e := 43) rfl rfl rfl (by decide +kernel) ?_
  refine mi_s_if2 (t := 40) rfl rfl rfl (by unfold mi_R; omega) (by unfold mi_R; omega) (fun hc_ => absurd (show kx = 43 from hc_) (by omega)) (fun _ => ?_)
  refine mi_wp_p (pc' := 32) (st' := [.ref 42]) rfl rfl rfl ?_
  refine ty_s_ci rfl rfl rfl rfl rfl rfl (mi_cal_v2 (np := 0) (args := [.ref 42]) (rest := []) rfl rfl rfl rfl rfl (Nat.le_of_ble_eq_true rfl) rfl rfl (Nat.le_of_ble_eq_true rfl) (ty_rcS S (List.mem_of_getElem? (i := 18) rfl))) (Nat.le_of_ble_eq_true rfl) S (pr26_kind (σ := σ1) pw1.1 pw1.2.2.1 (by omega) pw1.2.2.2.1 (ps26_k A1 hkx (by first | omega | (simp only [List.length_cons, List.length_append, List.length_nil]; omega)))) ?_
  intro x hh σu S f P
  obtain ⟨e1, e2⟩ := P
  rw [e2] at S
  rw [e1]
  clear e1 e2
  replace fr := mi_Fm_tr fr f
  refine mi_s_k (pc' := 37) (e := 45) rfl rfl rfl (by decide +kernel) ?_
  refine mi_s_if2 (t := 82) rfl rfl rfl (by unfold mi_R; omega) (by unfold mi_R; omega) (fun _ => ?_) (fun hc_ => absurd (show kx ≠ 45 by omega) hc_)
  refine mi_wp_p (pc' := 83) (st' := [.int (Int32.ofInt (r (mi_sF σ 42 3) (mi_sF σ 26 7)))]) rfl rfl rfl ?_
  exact ty_s_ret S fr rfl rfl rfl (mi_ret_i rfl) ⟨_, rfl, (by first | rfl | (simp only [Int.add_zero]; done) | (dsimp only; omega) | (dsimp only; simp only [List.length_cons, List.length_append, List.length_nil]; omega)), ps26_eq A1 (by first | omega | (simp only [List.length_cons, List.length_append, List.length_nil]; omega)) (by first | rfl | simp only [g1.2.1, List.nil_append, List.append_nil, List.append_assoc, List.cons_append, Int.add_zero, Int.zero_add, Int.add_assoc, Int.reduceAdd])⟩
theorem pr26_relation {X : mi_X} {d : Nat} {dd : Int} {ts : List Int} {l : Int → Int → List (Int × Int × Int)} {r : Int → Int → Int} (hA : ES26 X (d + 8) mi_M82 dd ts l r) : ES26 X (d + 9) mi_M77 dd ts (fun p s => l p s) (fun p s => r p s) := by
  intro σ kx pw T hlen hkx hfe hroom h S
  have fr := mi_Fm_rf h
  have A0 := ps26_rf (σ := σ)
  have pw0 := pw
  obtain ⟨q1, q2, q3, q4, q5⟩ := pw0
  have fkx : 0 ≤ kx ∧ kx ≤ 59 ∧ kx ≠ 42 ∧ kx ≠ 43 ∧ kx ≠ 45 := by unfold fe at hfe; omega
  try simp only [List.length_cons, List.length_append, List.length_nil] at hlen
  try simp only [List.length_cons, List.length_append, List.length_nil] at hroom
  have T0 := T
  refine mi_wp_p (pc' := 1) (st' := [.ref 42]) rfl rfl rfl ?_
  refine ty_s_gf (x := mi_sF σ 42 3) S rfl rfl rfl (List.mem_of_getElem? (i := 18) rfl) rfl ?_
  refine mi_wp_p (pc' := 5) (l' := [(2, .int (Int32.ofInt (mi_sF σ 42 3))), (0, .ref 42), (1, .int (Int32.ofInt dd))]) (st' := []) rfl rfl rfl ?_
  refine mi_wp_p (pc' := 6) (st' := [.ref 42]) rfl rfl rfl ?_
  refine mi_wp_p (pc' := 7) (st' := [.int (Int32.ofInt dd), .ref 42]) rfl rfl rfl ?_
  have ep1 : mi_sF σ 42 3 = mi_sF σ 42 3 := by omega
  have es1 : mi_sF σ 26 7 = mi_sF σ 26 7 := (by first | omega | (simp only [List.length_cons, List.length_append, List.length_nil]; omega))
  have Tk1 := tq_ps26 (p' := mi_sF σ 42 3) A0 T0 (by omega)
  have hn1 : mi_sA σ 5 (mi_sF σ 42 3 + (((ts).length : Int))) = kx := ps26_k2 A0 hkx (by first | omega | (simp only [List.length_cons, List.length_append, List.length_nil]; omega))
  have hr1 : mi_sF σ 26 7 + (l (mi_sF σ 42 3) (mi_sF σ 26 7)).length ≤ 1000 := by
    try rw [ep1, es1]
    omega
  refine ty_s_ci rfl rfl rfl rfl rfl rfl (mi_cal_v2 (np := 1) (args := [.ref 42, .int (Int32.ofInt dd)]) (rest := []) rfl rfl rfl rfl rfl (Nat.le_of_ble_eq_true rfl) rfl rfl (Nat.le_of_ble_eq_true rfl) (ty_rcS S (List.mem_of_getElem? (i := 18) rfl))) (Nat.le_of_ble_eq_true rfl) S (hA σ kx pw Tk1 (by first | omega | (simp only [List.length_cons, List.length_append, List.length_nil]; omega)) hn1 hfe hr1) ?_
  intro x1 hh σ1 S f P0
  obtain ⟨e1, P1⟩ := P0
  try rw [ep1, es1] at P1 e1
  rw [e1]
  clear e1
  have A1 := ps26_tr pw.2.2.2.2 A0 P1
  have pw1 := ps26_pw A1 pw (by omega)
  have g1 := ps26_7 A1
  try simp only [List.length_append, List.length_cons, List.length_nil] at g1
  replace fr := mi_Fm_tr fr f
  refine mi_wp_p (pc' := 11) (l' := [(3, .int (Int32.ofInt (r (mi_sF σ 42 3) (mi_sF σ 26 7)))), (2, .int (Int32.ofInt (mi_sF σ 42 3))), (0, .ref 42), (1, .int (Int32.ofInt dd))]) (st' := []) rfl rfl rfl ?_
  refine mi_wp_p (pc' := 12) (st' := [.ref 42]) rfl rfl rfl ?_
  refine ty_s_ci rfl rfl rfl rfl rfl rfl (mi_cal_v2 (np := 0) (args := [.ref 42]) (rest := []) rfl rfl rfl rfl rfl (Nat.le_of_ble_eq_true rfl) rfl rfl (Nat.le_of_ble_eq_true rfl) (ty_rcS S (List.mem_of_getElem? (i := 18) rfl))) (Nat.le_of_ble_eq_true rfl) S (pr26_kind (σ := σ1) pw1.1 pw1.2.2.1 (by omega) pw1.2.2.2.1 (ps26_k A1 hkx (by first | omega | (simp only [List.length_cons, List.length_append, List.length_nil]; omega)))) ?_
  intro x hh σu S f P
  obtain ⟨e1, e2⟩ := P
  rw [e2] at S
  rw [e1]
  clear e1 e2
  replace fr := mi_Fm_tr fr f
  refine mi_s_k (pc' := 17) (e := 61) rfl rfl rfl (by decide +kernel) ?_
  refine mi_s_if2 (t := 44) rfl rfl rfl (by unfold mi_R; omega) (by unfold mi_R; omega) (fun _ => ?_) (fun hc_ => absurd (show kx ≠ 61 by omega) hc_)
  refine mi_wp_p (pc' := 45) (st' := [.ref 42]) rfl rfl rfl ?_
  refine ty_s_ci rfl rfl rfl rfl rfl rfl (mi_cal_v2 (np := 0) (args := [.ref 42]) (rest := []) rfl rfl rfl rfl rfl (Nat.le_of_ble_eq_true rfl) rfl rfl (Nat.le_of_ble_eq_true rfl) (ty_rcS S (List.mem_of_getElem? (i := 18) rfl))) (Nat.le_of_ble_eq_true rfl) S (pr26_kind (σ := σ1) pw1.1 pw1.2.2.1 (by omega) pw1.2.2.2.1 (ps26_k A1 hkx (by first | omega | (simp only [List.length_cons, List.length_append, List.length_nil]; omega)))) ?_
  intro x hh σu S f P
  obtain ⟨e1, e2⟩ := P
  rw [e2] at S
  rw [e1]
  clear e1 e2
  replace fr := mi_Fm_tr fr f
  refine mi_s_k (pc' := 50) (e := 60) rfl rfl rfl (by decide +kernel) ?_
  refine mi_s_if2 (t := 87) rfl rfl rfl (by unfold mi_R; omega) (by unfold mi_R; omega) (fun _ => ?_) (fun hc_ => absurd (show kx ≠ 60 by omega) hc_)
  refine mi_wp_p (pc' := 88) (st' := [.int (Int32.ofInt (r (mi_sF σ 42 3) (mi_sF σ 26 7)))]) rfl rfl rfl ?_
  exact ty_s_ret S fr rfl rfl rfl (mi_ret_i rfl) ⟨_, rfl, (by first | rfl | (simp only [Int.add_zero]; done) | (dsimp only; omega) | (dsimp only; simp only [List.length_cons, List.length_append, List.length_nil]; omega)), ps26_eq A1 (by first | omega | (simp only [List.length_cons, List.length_append, List.length_nil]; omega)) (by first | rfl | simp only [g1.2.1, List.nil_append, List.append_nil, List.append_assoc, List.cons_append, Int.add_zero, Int.zero_add, Int.add_assoc, Int.reduceAdd])⟩
theorem pr26_exprN {X : mi_X} {d : Nat} {dd : Int} {ts : List Int} {l : Int → Int → List (Int × Int × Int)} {r : Int → Int → Int} (hdd : 0 ≤ dd ∧ dd ≤ 12) (hA : ES26 X (d + 9) mi_M77 dd (13 :: ts) l r) : ES26 X (d + 10) mi_M65 dd (13 :: ts) (fun p s => l p s) (fun p s => r p s) := by
  intro σ kx pw T hlen hkx hfe hroom h S
  have fr := mi_Fm_rf h
  have A0 := ps26_rf (σ := σ)
  have pw0 := pw
  obtain ⟨q1, q2, q3, q4, q5⟩ := pw0
  have fkx : 0 ≤ kx ∧ kx ≤ 59 ∧ kx ≠ 42 ∧ kx ≠ 43 ∧ kx ≠ 45 := by unfold fe at hfe; omega
  try simp only [List.length_cons, List.length_append, List.length_nil] at hlen
  try simp only [List.length_cons, List.length_append, List.length_nil] at hroom
  obtain ⟨t0, -⟩ := tq_cons T
  have T0 := T
  refine mi_wp_p (pc' := 1) (st' := [.int (Int32.ofInt dd)]) rfl rfl rfl ?_
  refine mi_s_k (pc' := 3) (e := 12) rfl rfl rfl (by decide +kernel) ?_
  refine mi_s_if2 (t := 12) rfl rfl rfl (by unfold mi_R; omega) (by unfold mi_R; omega) (fun _ => ?_) (fun hc_ => absurd (show dd ≤ 12 by omega) hc_)
  refine mi_wp_p (pc' := 13) (st' := [.ref 42]) rfl rfl rfl ?_
  refine ty_s_ci rfl rfl rfl rfl rfl rfl (mi_cal_v2 (np := 0) (args := [.ref 42]) (rest := []) rfl rfl rfl rfl rfl (Nat.le_of_ble_eq_true rfl) rfl rfl (Nat.le_of_ble_eq_true rfl) (ty_rcS S (List.mem_of_getElem? (i := 18) rfl))) (Nat.le_of_ble_eq_true rfl) S (pr26_kind (σ := σ) pw.1 pw.2.2.1 (by omega) pw.2.2.2.1 (ps26_k A0 t0 (by first | omega | (simp only [List.length_cons, List.length_append, List.length_nil]; omega)))) ?_
  intro x hh σu S f P
  obtain ⟨e1, e2⟩ := P
  rw [e2] at S
  rw [e1]
  clear e1 e2
  replace fr := mi_Fm_tr fr f
  refine mi_wp_p (pc' := 84) (l' := [(0, .ref 42), (1, .int (Int32.ofInt dd))]) (st' := []) rfl rfl rfl ?_
  refine mi_wp_p (pc' := 85) (st' := [.ref 42]) rfl rfl rfl ?_
  refine mi_wp_p (pc' := 86) (st' := [.int (Int32.ofInt dd), .ref 42]) rfl rfl rfl ?_
  have ep1 : mi_sF σ 42 3 = mi_sF σ 42 3 := by omega
  have es1 : mi_sF σ 26 7 = mi_sF σ 26 7 := (by first | omega | (simp only [List.length_cons, List.length_append, List.length_nil]; omega))
  have Tk1 := tq_ps26 (p' := mi_sF σ 42 3) A0 T0 (by omega)
  have hn1 : mi_sA σ 5 (mi_sF σ 42 3 + (((13 :: ts).length : Int))) = kx := ps26_k2 A0 hkx (by first | omega | (simp only [List.length_cons, List.length_append, List.length_nil]; omega))
  have hr1 : mi_sF σ 26 7 + (l (mi_sF σ 42 3) (mi_sF σ 26 7)).length ≤ 1000 := by
    try rw [ep1, es1]
    omega
  refine ty_s_ci rfl rfl rfl rfl rfl rfl (mi_cal_v2 (np := 1) (args := [.ref 42, .int (Int32.ofInt dd)]) (rest := []) rfl rfl rfl rfl rfl (Nat.le_of_ble_eq_true rfl) rfl rfl (Nat.le_of_ble_eq_true rfl) (ty_rcS S (List.mem_of_getElem? (i := 18) rfl))) (Nat.le_of_ble_eq_true rfl) S (hA σ kx pw Tk1 (by first | omega | (simp only [List.length_cons, List.length_append, List.length_nil]; omega)) hn1 hfe hr1) ?_
  intro x1 hh σ1 S f P0
  obtain ⟨e1, P1⟩ := P0
  try rw [ep1, es1] at P1 e1
  rw [e1]
  clear e1
  have A1 := ps26_tr pw.2.2.2.2 A0 P1
  have pw1 := ps26_pw A1 pw (by omega)
  have g1 := ps26_7 A1
  try simp only [List.length_append, List.length_cons, List.length_nil] at g1
  replace fr := mi_Fm_tr fr f
  exact ty_s_ret S fr rfl rfl rfl (mi_ret_i rfl) ⟨_, rfl, (by first | rfl | (simp only [Int.add_zero]; done) | (dsimp only; omega) | (dsimp only; simp only [List.length_cons, List.length_append, List.length_nil]; omega)), ps26_eq A1 (by first | omega | (simp only [List.length_cons, List.length_append, List.length_nil]; omega)) (by first | rfl | simp only [g1.2.1, List.nil_append, List.append_nil, List.append_assoc, List.cons_append, Int.add_zero, Int.zero_add, Int.add_assoc, Int.reduceAdd])⟩
theorem pr26_exprP {X : mi_X} {d : Nat} {dd : Int} {ts : List Int} {l : Int → Int → List (Int × Int × Int)} {r : Int → Int → Int} (hdd : 0 ≤ dd ∧ dd ≤ 12) (hA : ES26 X (d + 9) mi_M77 dd (40 :: ts) l r) : ES26 X (d + 10) mi_M65 dd (40 :: ts) (fun p s => l p s) (fun p s => r p s) := by
  intro σ kx pw T hlen hkx hfe hroom h S
  have fr := mi_Fm_rf h
  have A0 := ps26_rf (σ := σ)
  have pw0 := pw
  obtain ⟨q1, q2, q3, q4, q5⟩ := pw0
  have fkx : 0 ≤ kx ∧ kx ≤ 59 ∧ kx ≠ 42 ∧ kx ≠ 43 ∧ kx ≠ 45 := by unfold fe at hfe; omega
  try simp only [List.length_cons, List.length_append, List.length_nil] at hlen
  try simp only [List.length_cons, List.length_append, List.length_nil] at hroom
  obtain ⟨t0, -⟩ := tq_cons T
  have T0 := T
  refine mi_wp_p (pc' := 1) (st' := [.int (Int32.ofInt dd)]) rfl rfl rfl ?_
  refine mi_s_k (pc' := 3) (e := 12) rfl rfl rfl (by decide +kernel) ?_
  refine mi_s_if2 (t := 12) rfl rfl rfl (by unfold mi_R; omega) (by unfold mi_R; omega) (fun _ => ?_) (fun hc_ => absurd (show dd ≤ 12 by omega) hc_)
  refine mi_wp_p (pc' := 13) (st' := [.ref 42]) rfl rfl rfl ?_
  refine ty_s_ci rfl rfl rfl rfl rfl rfl (mi_cal_v2 (np := 0) (args := [.ref 42]) (rest := []) rfl rfl rfl rfl rfl (Nat.le_of_ble_eq_true rfl) rfl rfl (Nat.le_of_ble_eq_true rfl) (ty_rcS S (List.mem_of_getElem? (i := 18) rfl))) (Nat.le_of_ble_eq_true rfl) S (pr26_kind (σ := σ) pw.1 pw.2.2.1 (by omega) pw.2.2.2.1 (ps26_k A0 t0 (by first | omega | (simp only [List.length_cons, List.length_append, List.length_nil]; omega)))) ?_
  intro x hh σu S f P
  obtain ⟨e1, e2⟩ := P
  rw [e2] at S
  rw [e1]
  clear e1 e2
  replace fr := mi_Fm_tr fr f
  refine mi_wp_p (pc' := 84) (l' := [(0, .ref 42), (1, .int (Int32.ofInt dd))]) (st' := []) rfl rfl rfl ?_
  refine mi_wp_p (pc' := 85) (st' := [.ref 42]) rfl rfl rfl ?_
  refine mi_wp_p (pc' := 86) (st' := [.int (Int32.ofInt dd), .ref 42]) rfl rfl rfl ?_
  have ep1 : mi_sF σ 42 3 = mi_sF σ 42 3 := by omega
  have es1 : mi_sF σ 26 7 = mi_sF σ 26 7 := (by first | omega | (simp only [List.length_cons, List.length_append, List.length_nil]; omega))
  have Tk1 := tq_ps26 (p' := mi_sF σ 42 3) A0 T0 (by omega)
  have hn1 : mi_sA σ 5 (mi_sF σ 42 3 + (((40 :: ts).length : Int))) = kx := ps26_k2 A0 hkx (by first | omega | (simp only [List.length_cons, List.length_append, List.length_nil]; omega))
  have hr1 : mi_sF σ 26 7 + (l (mi_sF σ 42 3) (mi_sF σ 26 7)).length ≤ 1000 := by
    try rw [ep1, es1]
    omega
  refine ty_s_ci rfl rfl rfl rfl rfl rfl (mi_cal_v2 (np := 1) (args := [.ref 42, .int (Int32.ofInt dd)]) (rest := []) rfl rfl rfl rfl rfl (Nat.le_of_ble_eq_true rfl) rfl rfl (Nat.le_of_ble_eq_true rfl) (ty_rcS S (List.mem_of_getElem? (i := 18) rfl))) (Nat.le_of_ble_eq_true rfl) S (hA σ kx pw Tk1 (by first | omega | (simp only [List.length_cons, List.length_append, List.length_nil]; omega)) hn1 hfe hr1) ?_
  intro x1 hh σ1 S f P0
  obtain ⟨e1, P1⟩ := P0
  try rw [ep1, es1] at P1 e1
  rw [e1]
  clear e1
  have A1 := ps26_tr pw.2.2.2.2 A0 P1
  have pw1 := ps26_pw A1 pw (by omega)
  have g1 := ps26_7 A1
  try simp only [List.length_append, List.length_cons, List.length_nil] at g1
  replace fr := mi_Fm_tr fr f
  exact ty_s_ret S fr rfl rfl rfl (mi_ret_i rfl) ⟨_, rfl, (by first | rfl | (simp only [Int.add_zero]; done) | (dsimp only; omega) | (dsimp only; simp only [List.length_cons, List.length_append, List.length_nil]; omega)), ps26_eq A1 (by first | omega | (simp only [List.length_cons, List.length_append, List.length_nil]; omega)) (by first | rfl | simp only [g1.2.1, List.nil_append, List.append_nil, List.append_assoc, List.cons_append, Int.add_zero, Int.zero_add, Int.add_assoc, Int.reduceAdd])⟩
theorem pr26_name {X : mi_X} {d : Nat} {dd : Int} (hdd : 0 ≤ dd ∧ dd ≤ 12) : ES26 X (d + 10) mi_M65 dd [13] (fun p s => [(21, p, 0)]) (fun p s => s) := pr26_exprN hdd (pr26_relation (pr26_sum (pr26_product (pr26_call pr26_atom_name))))
theorem pr26_bracket {X : mi_X} {d : Nat} {dd : Int} {ts ts' : List Int} {l l' : Int → Int → List (Int × Int × Int)} {r r' : Int → Int → Int} (hA : ES26 X (d + 5) mi_M65 (dd + 1) ts l r) (hB : ES26 X (d + 5) mi_M65 (dd + 1) ts' l' r') : ES26 X (d + 6) mi_M62 dd (40 :: (ts ++ 44 :: (ts' ++ [41]))) (fun p s => l (p + 1) s ++ (l' (p + (1 + (ts.length + 1))) (s + (l (p + 1) s).length) ++ [(24, r (p + 1) s, r' (p + (1 + (ts.length + 1))) (s + (l (p + 1) s).length))])) (fun p s => s + (l (p + 1) s).length + (l' (p + (1 + (ts.length + 1))) (s + (l (p + 1) s).length)).length) := by
  intro σ kx pw T hlen hkx hfe hroom h S
  have fr := mi_Fm_rf h
  have A0 := ps26_rf (σ := σ)
  have pw0 := pw
  obtain ⟨q1, q2, q3, q4, q5⟩ := pw0
  have fkx : 0 ≤ kx ∧ kx ≤ 59 ∧ kx ≠ 42 ∧ kx ≠ 43 ∧ kx ≠ 45 := by unfold fe at hfe; omega
  try simp only [List.length_cons, List.length_append, List.length_nil] at hlen
  try simp only [List.length_cons, List.length_append, List.length_nil] at hroom
  obtain ⟨t0, T1⟩ := tq_cons T
  obtain ⟨Ta, T2⟩ := tq_app T1
  obtain ⟨t1, T3⟩ := tq_cons T2
  obtain ⟨Tb, T4⟩ := tq_app T3
  obtain ⟨t2, -⟩ := tq_cons T4
  have t1' : mi_sA σ 5 (mi_sF σ 42 3 + (1 + ts.length)) = 44 := by rw [← t1]; congr 1; omega
  have t2' : mi_sA σ 5 (mi_sF σ 42 3 + (1 + (ts.length + 1) + ts'.length)) = 41 := by rw [← t2]; congr 1; omega
  rw [show mi_sF σ 42 3 + 1 + (ts.length : Int) + 1 = mi_sF σ 42 3 + (1 + (ts.length + 1)) by omega] at Tb
  have e0 : mi_sF σ 26 7 + 0 = mi_sF σ 26 7 := Int.add_zero _
  refine mi_wp_p (pc' := 1) (st' := [.ref 42]) rfl rfl rfl ?_
  refine ty_s_gf (x := mi_sF σ 42 3) S rfl rfl rfl (List.mem_of_getElem? (i := 18) rfl) rfl ?_
  refine mi_wp_p (pc' := 5) (l' := [(2, .int (Int32.ofInt (mi_sF σ 42 3))), (0, .ref 42), (1, .int (Int32.ofInt dd))]) (st' := []) rfl rfl rfl ?_
  refine mi_wp_p (pc' := 6) (st' := [.ref 42]) rfl rfl rfl ?_
  refine mi_s_k (pc' := 8) (e := 40) rfl rfl rfl (by decide +kernel) ?_
  refine ty_s_cv rfl rfl rfl rfl rfl rfl (mi_cal_v2 (np := 1) (args := [.ref 42, .int (Int32.ofInt 40)]) (rest := []) rfl rfl rfl rfl rfl (Nat.le_of_ble_eq_true rfl) rfl rfl (Nat.le_of_ble_eq_true rfl) (ty_rcS S (List.mem_of_getElem? (i := 18) rfl))) (Nat.le_of_ble_eq_true rfl) S (pr26_take (σ := σ) pw.1 pw.2.2.1 (by omega) pw.2.2.2.1 (ps26_k A0 t0 (by first | omega | (simp only [List.length_cons, List.length_append, List.length_nil]; omega))) (by omega)) ?_
  intro hh σ1 S f P1
  have A1 := ps26_tr pw.2.2.2.2 A0 P1
  have pw1 := ps26_pw A1 pw (by omega)
  have g1 := ps26_7 A1
  try simp only [List.length_append, List.length_cons, List.length_nil] at g1
  replace fr := mi_Fm_tr fr f
  refine mi_wp_p (pc' := 12) (st' := [.ref 42]) rfl rfl rfl ?_
  refine mi_wp_p (pc' := 13) (st' := [.int (Int32.ofInt dd), .ref 42]) rfl rfl rfl ?_
  refine mi_wp_p (pc' := 14) (st' := [.int (Int32.ofInt 1), .int (Int32.ofInt dd), .ref 42]) rfl rfl rfl ?_
  refine mi_s_add rfl rfl ?_
  have ep2 : mi_sF σ1 42 3 = mi_sF σ 42 3 + (1) := by omega
  have es2 : mi_sF σ1 26 7 = mi_sF σ 26 7 := (by first | omega | (simp only [List.length_cons, List.length_append, List.length_nil]; omega))
  have Tk2 := tq_ps26 (p' := mi_sF σ1 42 3) A1 Ta (by omega)
  have hn2 : mi_sA σ1 5 (mi_sF σ1 42 3 + ((ts.length : Int))) = 44 := ps26_k2 A1 t1' (by first | omega | (simp only [List.length_cons, List.length_append, List.length_nil]; omega))
  have hr2 : mi_sF σ1 26 7 + (l (mi_sF σ1 42 3) (mi_sF σ1 26 7)).length ≤ 1000 := by
    try rw [ep2, es2]
    omega
  refine ty_s_ci rfl rfl rfl rfl rfl rfl (mi_cal_v2 (np := 1) (args := [.ref 42, .int (Int32.ofInt (dd + 1))]) (rest := []) rfl rfl rfl rfl rfl (Nat.le_of_ble_eq_true rfl) rfl rfl (Nat.le_of_ble_eq_true rfl) (ty_rcS S (List.mem_of_getElem? (i := 18) rfl))) (Nat.le_of_ble_eq_true rfl) S (hA σ1 44 pw1 Tk2 (by first | omega | (simp only [List.length_cons, List.length_append, List.length_nil]; omega)) hn2 (by unfold fe; omega) hr2) ?_
  intro x2 hh σ2 S f P0
  obtain ⟨e1, P2⟩ := P0
  try rw [ep2, es2] at P2 e1
  rw [e1]
  clear e1
  have A2 := ps26_tr pw.2.2.2.2 A1 P2
  have pw2 := ps26_pw A2 pw (by omega)
  have g2 := ps26_7 A2
  try simp only [List.length_append, List.length_cons, List.length_nil] at g2
  replace fr := mi_Fm_tr fr f
  refine mi_wp_p (pc' := 19) (l' := [(3, .int (Int32.ofInt (r (mi_sF σ 42 3 + (1)) (mi_sF σ 26 7)))), (2, .int (Int32.ofInt (mi_sF σ 42 3))), (0, .ref 42), (1, .int (Int32.ofInt dd))]) (st' := []) rfl rfl rfl ?_
  refine mi_wp_p (pc' := 20) (st' := [.ref 42]) rfl rfl rfl ?_
  refine ty_s_ci rfl rfl rfl rfl rfl rfl (mi_cal_v2 (np := 0) (args := [.ref 42]) (rest := []) rfl rfl rfl rfl rfl (Nat.le_of_ble_eq_true rfl) rfl rfl (Nat.le_of_ble_eq_true rfl) (ty_rcS S (List.mem_of_getElem? (i := 18) rfl))) (Nat.le_of_ble_eq_true rfl) S (pr26_kind (σ := σ2) pw2.1 pw2.2.2.1 (by omega) pw2.2.2.2.1 (ps26_k A2 t1' (by first | omega | (simp only [List.length_cons, List.length_append, List.length_nil]; omega)))) ?_
  intro x hh σu S f P
  obtain ⟨e1, e2⟩ := P
  rw [e2] at S
  rw [e1]
  clear e1 e2
  replace fr := mi_Fm_tr fr f
  refine mi_s_k (pc' := 25) (e := 44) rfl rfl rfl (by decide +kernel) ?_
  refine mi_s_if2 (t := 60) rfl rfl rfl (by unfold mi_R; omega) (by unfold mi_R; omega) (fun hc_ => absurd (show (44 : Int) ≠ 44 from hc_) (by omega)) (fun _ => ?_)
  refine mi_wp_p (pc' := 29) (st' := [.ref 42]) rfl rfl rfl ?_
  refine mi_s_k (pc' := 31) (e := 44) rfl rfl rfl (by decide +kernel) ?_
  refine ty_s_cv rfl rfl rfl rfl rfl rfl (mi_cal_v2 (np := 1) (args := [.ref 42, .int (Int32.ofInt 44)]) (rest := []) rfl rfl rfl rfl rfl (Nat.le_of_ble_eq_true rfl) rfl rfl (Nat.le_of_ble_eq_true rfl) (ty_rcS S (List.mem_of_getElem? (i := 18) rfl))) (Nat.le_of_ble_eq_true rfl) S (pr26_take (σ := σ2) pw2.1 pw2.2.2.1 (by omega) pw2.2.2.2.1 (ps26_k A2 t1' (by first | omega | (simp only [List.length_cons, List.length_append, List.length_nil]; omega))) (by omega)) ?_
  intro hh σ3 S f P3
  have A3 := ps26_tr pw.2.2.2.2 A2 P3
  have pw3 := ps26_pw A3 pw (by omega)
  have g3 := ps26_7 A3
  try simp only [List.length_append, List.length_cons, List.length_nil] at g3
  replace fr := mi_Fm_tr fr f
  refine mi_wp_p (pc' := 35) (st' := [.ref 42]) rfl rfl rfl ?_
  refine mi_wp_p (pc' := 36) (st' := [.int (Int32.ofInt dd), .ref 42]) rfl rfl rfl ?_
  refine mi_wp_p (pc' := 37) (st' := [.int (Int32.ofInt 1), .int (Int32.ofInt dd), .ref 42]) rfl rfl rfl ?_
  refine mi_s_add rfl rfl ?_
  have ep4 : mi_sF σ3 42 3 = mi_sF σ 42 3 + (1 + (ts.length + 1)) := by omega
  have es4 : mi_sF σ3 26 7 = mi_sF σ 26 7 + ((l (mi_sF σ 42 3 + 1) (mi_sF σ 26 7)).length) := (by first | omega | (simp only [List.length_cons, List.length_append, List.length_nil]; omega))
  have Tk4 := tq_ps26 (p' := mi_sF σ3 42 3) A3 Tb (by omega)
  have hn4 : mi_sA σ3 5 (mi_sF σ3 42 3 + ((ts'.length : Int))) = 41 := ps26_k2 A3 t2' (by first | omega | (simp only [List.length_cons, List.length_append, List.length_nil]; omega))
  have hr4 : mi_sF σ3 26 7 + (l' (mi_sF σ3 42 3) (mi_sF σ3 26 7)).length ≤ 1000 := by
    try rw [ep4, es4]
    omega
  refine ty_s_ci rfl rfl rfl rfl rfl rfl (mi_cal_v2 (np := 1) (args := [.ref 42, .int (Int32.ofInt (dd + 1))]) (rest := []) rfl rfl rfl rfl rfl (Nat.le_of_ble_eq_true rfl) rfl rfl (Nat.le_of_ble_eq_true rfl) (ty_rcS S (List.mem_of_getElem? (i := 18) rfl))) (Nat.le_of_ble_eq_true rfl) S (hB σ3 41 pw3 Tk4 (by first | omega | (simp only [List.length_cons, List.length_append, List.length_nil]; omega)) hn4 (by unfold fe; omega) hr4) ?_
  intro x4 hh σ4 S f P0
  obtain ⟨e1, P4⟩ := P0
  try rw [ep4, es4] at P4 e1
  rw [e1]
  clear e1
  have A4 := ps26_tr pw.2.2.2.2 A3 P4
  have pw4 := ps26_pw A4 pw (by omega)
  have g4 := ps26_7 A4
  try simp only [List.length_append, List.length_cons, List.length_nil] at g4
  replace fr := mi_Fm_tr fr f
  refine mi_wp_p (pc' := 43) (l' := [(4, .int (Int32.ofInt (r' (mi_sF σ 42 3 + (1 + (ts.length + 1))) (mi_sF σ 26 7 + ((l (mi_sF σ 42 3 + 1) (mi_sF σ 26 7)).length))))), (3, .int (Int32.ofInt (r (mi_sF σ 42 3 + (1)) (mi_sF σ 26 7)))), (2, .int (Int32.ofInt (mi_sF σ 42 3))), (0, .ref 42), (1, .int (Int32.ofInt dd))]) (st' := []) rfl rfl rfl ?_
  refine mi_wp_p (pc' := 44) (st' := [.ref 42]) rfl rfl rfl ?_
  refine mi_s_k (pc' := 46) (e := 41) rfl rfl rfl (by decide +kernel) ?_
  refine ty_s_cv rfl rfl rfl rfl rfl rfl (mi_cal_v2 (np := 1) (args := [.ref 42, .int (Int32.ofInt 41)]) (rest := []) rfl rfl rfl rfl rfl (Nat.le_of_ble_eq_true rfl) rfl rfl (Nat.le_of_ble_eq_true rfl) (ty_rcS S (List.mem_of_getElem? (i := 18) rfl))) (Nat.le_of_ble_eq_true rfl) S (pr26_take (σ := σ4) pw4.1 pw4.2.2.1 (by omega) pw4.2.2.2.1 (ps26_k A4 t2' (by first | omega | (simp only [List.length_cons, List.length_append, List.length_nil]; omega))) (by omega)) ?_
  intro hh σ5 S f P5
  have A5 := ps26_tr pw.2.2.2.2 A4 P5
  have pw5 := ps26_pw A5 pw (by omega)
  have g5 := ps26_7 A5
  try simp only [List.length_append, List.length_cons, List.length_nil] at g5
  replace fr := mi_Fm_tr fr f
  refine mi_wp_p (pc' := 50) (st' := [.ref 42]) rfl rfl rfl ?_
  refine mi_s_k (pc' := 52) (e := 24) rfl rfl rfl (by decide +kernel) ?_
  refine mi_wp_p (pc' := 53) (st' := [.int (Int32.ofInt (r (mi_sF σ 42 3 + (1)) (mi_sF σ 26 7))), .int (Int32.ofInt 24), .ref 42]) rfl rfl rfl ?_
  refine mi_wp_p (pc' := 55) (st' := [.int (Int32.ofInt (r' (mi_sF σ 42 3 + (1 + (ts.length + 1))) (mi_sF σ 26 7 + ((l (mi_sF σ 42 3 + 1) (mi_sF σ 26 7)).length)))), .int (Int32.ofInt (r (mi_sF σ 42 3 + (1)) (mi_sF σ 26 7))), .int (Int32.ofInt 24), .ref 42]) rfl rfl rfl ?_
  refine mi_wp_p (pc' := 56) (st' := [.int (Int32.ofInt (mi_sF σ 42 3)), .int (Int32.ofInt (r' (mi_sF σ 42 3 + (1 + (ts.length + 1))) (mi_sF σ 26 7 + ((l (mi_sF σ 42 3 + 1) (mi_sF σ 26 7)).length)))), .int (Int32.ofInt (r (mi_sF σ 42 3 + (1)) (mi_sF σ 26 7))), .int (Int32.ofInt 24), .ref 42]) rfl rfl rfl ?_
  refine ty_s_ci rfl rfl rfl rfl rfl rfl (mi_cal_v2 (np := 4) (args := [.ref 42, .int (Int32.ofInt 24), .int (Int32.ofInt (r (mi_sF σ 42 3 + (1)) (mi_sF σ 26 7))), .int (Int32.ofInt (r' (mi_sF σ 42 3 + (1 + (ts.length + 1))) (mi_sF σ 26 7 + ((l (mi_sF σ 42 3 + 1) (mi_sF σ 26 7)).length)))), .int (Int32.ofInt (mi_sF σ 42 3))]) (rest := []) rfl rfl rfl rfl rfl (Nat.le_of_ble_eq_true rfl) rfl rfl (Nat.le_of_ble_eq_true rfl) (ty_rcS S (List.mem_of_getElem? (i := 18) rfl))) (Nat.le_of_ble_eq_true rfl) S (pr26_addExpression (σ := σ5) pw5 (by omega) (by omega) (by omega) (by omega)) ?_
  intro x hh σ6 S f P0
  obtain ⟨e1, P6⟩ := P0
  rw [e1]
  clear e1
  have A6 := ps26_tr pw.2.2.2.2 A5 P6
  have pw6 := ps26_pw A6 pw (by omega)
  have g6 := ps26_7 A6
  try simp only [List.length_append, List.length_cons, List.length_nil] at g6
  replace fr := mi_Fm_tr fr f
  exact ty_s_ret S fr rfl rfl rfl (mi_ret_i rfl) ⟨_, rfl, (by first | rfl | (simp only [Int.add_zero]; done) | (dsimp only; omega) | (dsimp only; simp only [List.length_cons, List.length_append, List.length_nil]; omega)), ps26_eq A6 (by first | omega | (simp only [List.length_cons, List.length_append, List.length_nil]; omega)) (by first | rfl | simp only [g1.2.1, g2.2.1, g3.2.1, g4.2.1, g5.2.1, g6.2.1, List.nil_append, List.append_nil, List.append_assoc, List.cons_append, Int.add_zero, Int.zero_add, Int.add_assoc, Int.reduceAdd])⟩
theorem pr26_atom_par {X : mi_X} {d : Nat} {dd : Int} {ts : List Int} {l : Int → Int → List (Int × Int × Int)} {r : Int → Int → Int} (hA : ES26 X (d + 6) mi_M62 dd (40 :: ts) l r) : ES26 X (d + 7) mi_M61 dd (40 :: ts) (fun p s => l p s) (fun p s => r p s) := by
  intro σ kx pw T hlen hkx hfe hroom h S
  have fr := mi_Fm_rf h
  have A0 := ps26_rf (σ := σ)
  have pw0 := pw
  obtain ⟨q1, q2, q3, q4, q5⟩ := pw0
  have fkx : 0 ≤ kx ∧ kx ≤ 59 ∧ kx ≠ 42 ∧ kx ≠ 43 ∧ kx ≠ 45 := by unfold fe at hfe; omega
  try simp only [List.length_cons, List.length_append, List.length_nil] at hlen
  try simp only [List.length_cons, List.length_append, List.length_nil] at hroom
  obtain ⟨t0, -⟩ := tq_cons T
  have T0 := T
  refine mi_wp_p (pc' := 1) (st' := [.ref 42]) rfl rfl rfl ?_
  refine ty_s_gf (x := mi_sF σ 42 3) S rfl rfl rfl (List.mem_of_getElem? (i := 18) rfl) rfl ?_
  refine mi_wp_p (pc' := 5) (l' := [(2, .int (Int32.ofInt (mi_sF σ 42 3))), (0, .ref 42), (1, .int (Int32.ofInt dd))]) (st' := []) rfl rfl rfl ?_
  refine mi_wp_p (pc' := 6) (st' := [.ref 42]) rfl rfl rfl ?_
  refine ty_s_ci rfl rfl rfl rfl rfl rfl (mi_cal_v2 (np := 0) (args := [.ref 42]) (rest := []) rfl rfl rfl rfl rfl (Nat.le_of_ble_eq_true rfl) rfl rfl (Nat.le_of_ble_eq_true rfl) (ty_rcS S (List.mem_of_getElem? (i := 18) rfl))) (Nat.le_of_ble_eq_true rfl) S (pr26_kind (σ := σ) pw.1 pw.2.2.1 (by omega) pw.2.2.2.1 (ps26_k A0 t0 (by first | omega | (simp only [List.length_cons, List.length_append, List.length_nil]; omega)))) ?_
  intro x hh σu S f P
  obtain ⟨e1, e2⟩ := P
  rw [e2] at S
  rw [e1]
  clear e1 e2
  replace fr := mi_Fm_tr fr f
  refine mi_wp_p (pc' := 100) (l' := [(2, .int (Int32.ofInt (mi_sF σ 42 3))), (0, .ref 42), (1, .int (Int32.ofInt dd))]) (st' := []) rfl rfl rfl ?_
  refine mi_wp_p (pc' := 101) (st' := [.ref 42]) rfl rfl rfl ?_
  refine mi_wp_p (pc' := 102) (st' := [.int (Int32.ofInt dd), .ref 42]) rfl rfl rfl ?_
  have ep1 : mi_sF σ 42 3 = mi_sF σ 42 3 := by omega
  have es1 : mi_sF σ 26 7 = mi_sF σ 26 7 := (by first | omega | (simp only [List.length_cons, List.length_append, List.length_nil]; omega))
  have Tk1 := tq_ps26 (p' := mi_sF σ 42 3) A0 T0 (by omega)
  have hn1 : mi_sA σ 5 (mi_sF σ 42 3 + (((40 :: ts).length : Int))) = kx := ps26_k2 A0 hkx (by first | omega | (simp only [List.length_cons, List.length_append, List.length_nil]; omega))
  have hr1 : mi_sF σ 26 7 + (l (mi_sF σ 42 3) (mi_sF σ 26 7)).length ≤ 1000 := by
    try rw [ep1, es1]
    omega
  refine ty_s_ci rfl rfl rfl rfl rfl rfl (mi_cal_v2 (np := 1) (args := [.ref 42, .int (Int32.ofInt dd)]) (rest := []) rfl rfl rfl rfl rfl (Nat.le_of_ble_eq_true rfl) rfl rfl (Nat.le_of_ble_eq_true rfl) (ty_rcS S (List.mem_of_getElem? (i := 18) rfl))) (Nat.le_of_ble_eq_true rfl) S (hA σ kx pw Tk1 (by first | omega | (simp only [List.length_cons, List.length_append, List.length_nil]; omega)) hn1 hfe hr1) ?_
  intro x1 hh σ1 S f P0
  obtain ⟨e1, P1⟩ := P0
  try rw [ep1, es1] at P1 e1
  rw [e1]
  clear e1
  have A1 := ps26_tr pw.2.2.2.2 A0 P1
  have pw1 := ps26_pw A1 pw (by omega)
  have g1 := ps26_7 A1
  try simp only [List.length_append, List.length_cons, List.length_nil] at g1
  replace fr := mi_Fm_tr fr f
  exact ty_s_ret S fr rfl rfl rfl (mi_ret_i rfl) ⟨_, rfl, (by first | rfl | (simp only [Int.add_zero]; done) | (dsimp only; omega) | (dsimp only; simp only [List.length_cons, List.length_append, List.length_nil]; omega)), ps26_eq A1 (by first | omega | (simp only [List.length_cons, List.length_append, List.length_nil]; omega)) (by first | rfl | simp only [g1.2.1, List.nil_append, List.append_nil, List.append_assoc, List.cons_append, Int.add_zero, Int.zero_add, Int.add_assoc, Int.reduceAdd])⟩
theorem pr26_fun {X : mi_X} {d : Nat} {dd : Int} {ts : List Int} {l : Int → Int → List (Int × Int × Int)} {r : Int → Int → Int} (hA : ES26 X (d + 5) mi_M65 (dd + 1) ts l r) : ES26 X (d + 6) mi_M69 dd (4 :: 13 :: 17 :: ts) (fun p s => (15, p + 1, 0) :: (l (p + 3) (s + 1) ++ [(30, r (p + 3) (s + 1), 1)])) (fun p s => s + 1 + (l (p + 3) (s + 1)).length) := by
  intro σ kx pw T hlen hkx hfe hroom h S
  have fr := mi_Fm_rf h
  have A0 := ps26_rf (σ := σ)
  have pw0 := pw
  obtain ⟨q1, q2, q3, q4, q5⟩ := pw0
  have fkx : 0 ≤ kx ∧ kx ≤ 59 ∧ kx ≠ 42 ∧ kx ≠ 43 ∧ kx ≠ 45 := by unfold fe at hfe; omega
  try simp only [List.length_cons, List.length_append, List.length_nil] at hlen
  try simp only [List.length_cons, List.length_append, List.length_nil] at hroom
  obtain ⟨t0, T1⟩ := tq_cons T
  obtain ⟨t1, T2⟩ := tq_cons T1
  obtain ⟨t2, T3⟩ := tq_cons T2
  have t1' : mi_sA σ 5 (mi_sF σ 42 3 + 1) = 13 := by rw [← t1]; congr 1; omega
  have t2' : mi_sA σ 5 (mi_sF σ 42 3 + 2) = 17 := by rw [← t2]; congr 1; omega
  rw [show mi_sF σ 42 3 + 1 + 1 + 1 = mi_sF σ 42 3 + 3 by omega] at T3
  refine mi_wp_p (pc' := 1) (st' := [.ref 42]) rfl rfl rfl ?_
  refine ty_s_gf (x := mi_sF σ 42 3) S rfl rfl rfl (List.mem_of_getElem? (i := 18) rfl) rfl ?_
  refine mi_wp_p (pc' := 5) (l' := [(2, .int (Int32.ofInt (mi_sF σ 42 3))), (0, .ref 42), (1, .int (Int32.ofInt dd))]) (st' := []) rfl rfl rfl ?_
  refine mi_wp_p (pc' := 6) (st' := [.ref 42]) rfl rfl rfl ?_
  refine mi_wp_p (pc' := 7) (st' := [.int (Int32.ofInt 4), .ref 42]) rfl rfl rfl ?_
  refine ty_s_cv rfl rfl rfl rfl rfl rfl (mi_cal_v2 (np := 1) (args := [.ref 42, .int (Int32.ofInt 4)]) (rest := []) rfl rfl rfl rfl rfl (Nat.le_of_ble_eq_true rfl) rfl rfl (Nat.le_of_ble_eq_true rfl) (ty_rcS S (List.mem_of_getElem? (i := 18) rfl))) (Nat.le_of_ble_eq_true rfl) S (pr26_take (σ := σ) pw.1 pw.2.2.1 (by omega) pw.2.2.2.1 (ps26_k A0 t0 (by first | omega | (simp only [List.length_cons, List.length_append, List.length_nil]; omega))) (by omega)) ?_
  intro hh σ1 S f P1
  have A1 := ps26_tr pw.2.2.2.2 A0 P1
  have pw1 := ps26_pw A1 pw (by omega)
  have g1 := ps26_7 A1
  try simp only [List.length_append, List.length_cons, List.length_nil] at g1
  replace fr := mi_Fm_tr fr f
  refine mi_wp_p (pc' := 11) (st' := [.int (Int32.ofInt 0)]) rfl rfl rfl ?_
  refine mi_wp_p (pc' := 12) (l' := [(3, .int (Int32.ofInt 0)), (2, .int (Int32.ofInt (mi_sF σ 42 3))), (0, .ref 42), (1, .int (Int32.ofInt dd))]) (st' := []) rfl rfl rfl ?_
  refine mi_wp_p (pc' := 13) (st' := [.ref 42]) rfl rfl rfl ?_
  refine mi_s_k (pc' := 15) (e := 15) rfl rfl rfl (by decide +kernel) ?_
  refine mi_wp_p (pc' := 16) (st' := [.ref 42, .int (Int32.ofInt 15), .ref 42]) rfl rfl rfl ?_
  refine ty_s_gf (x := mi_sF σ1 42 3) S rfl rfl rfl (List.mem_of_getElem? (i := 18) rfl) rfl ?_
  refine mi_wp_p (pc' := 20) (st' := [.int (Int32.ofInt 0), .int (Int32.ofInt (mi_sF σ1 42 3)), .int (Int32.ofInt 15), .ref 42]) rfl rfl rfl ?_
  refine mi_wp_p (pc' := 21) (st' := [.int (Int32.ofInt 0), .int (Int32.ofInt 0), .int (Int32.ofInt (mi_sF σ1 42 3)), .int (Int32.ofInt 15), .ref 42]) rfl rfl rfl ?_
  refine ty_s_ci rfl rfl rfl rfl rfl rfl (mi_cal_v2 (np := 4) (args := [.ref 42, .int (Int32.ofInt 15), .int (Int32.ofInt (mi_sF σ1 42 3)), .int (Int32.ofInt 0), .int (Int32.ofInt 0)]) (rest := []) rfl rfl rfl rfl rfl (Nat.le_of_ble_eq_true rfl) rfl rfl (Nat.le_of_ble_eq_true rfl) (ty_rcS S (List.mem_of_getElem? (i := 18) rfl))) (Nat.le_of_ble_eq_true rfl) S (pr26_add (σ := σ1) pw1 (by omega)) ?_
  intro x hh σ2 S f P0
  obtain ⟨e1, P2⟩ := P0
  rw [e1]
  clear e1
  have A2 := ps26_tr pw.2.2.2.2 A1 P2
  have pw2 := ps26_pw A2 pw (by omega)
  have g2 := ps26_7 A2
  try simp only [List.length_append, List.length_cons, List.length_nil] at g2
  replace fr := mi_Fm_tr fr f
  refine mi_wp_p (pc' := 25) (st' := []) rfl rfl rfl ?_
  refine mi_wp_p (pc' := 26) (st' := [.ref 42]) rfl rfl rfl ?_
  refine mi_s_k (pc' := 28) (e := 13) rfl rfl rfl (by decide +kernel) ?_
  refine ty_s_cv rfl rfl rfl rfl rfl rfl (mi_cal_v2 (np := 1) (args := [.ref 42, .int (Int32.ofInt 13)]) (rest := []) rfl rfl rfl rfl rfl (Nat.le_of_ble_eq_true rfl) rfl rfl (Nat.le_of_ble_eq_true rfl) (ty_rcS S (List.mem_of_getElem? (i := 18) rfl))) (Nat.le_of_ble_eq_true rfl) S (pr26_take (σ := σ2) pw2.1 pw2.2.2.1 (by omega) pw2.2.2.2.1 (ps26_k A2 t1' (by first | omega | (simp only [List.length_cons, List.length_append, List.length_nil]; omega))) (by omega)) ?_
  intro hh σ3 S f P3
  have A3 := ps26_tr pw.2.2.2.2 A2 P3
  have pw3 := ps26_pw A3 pw (by omega)
  have g3 := ps26_7 A3
  try simp only [List.length_append, List.length_cons, List.length_nil] at g3
  replace fr := mi_Fm_tr fr f
  refine mi_s_inc (l' := [(3, .int (Int32.ofInt (0 + 1))), (2, .int (Int32.ofInt (mi_sF σ 42 3))), (0, .ref 42), (1, .int (Int32.ofInt dd))]) rfl rfl rfl (by decide) rfl ?_
  refine mi_wp_p (pc' := 35) (st' := [.int (Int32.ofInt (0 + 1))]) rfl rfl rfl ?_
  refine mi_s_k (pc' := 38) (e := 300) rfl rfl rfl (by decide +kernel) ?_
  refine mi_s_if2 (t := 50) rfl rfl rfl (by unfold mi_R; omega) (by unfold mi_R; omega) (fun hc_ => absurd (show 300 ≤ ((0 + 1) : Int) from hc_) (by omega)) (fun _ => ?_)
  refine mi_wp_p (pc' := 42) (st' := [.ref 42]) rfl rfl rfl ?_
  refine ty_s_ci rfl rfl rfl rfl rfl rfl (mi_cal_v2 (np := 0) (args := [.ref 42]) (rest := []) rfl rfl rfl rfl rfl (Nat.le_of_ble_eq_true rfl) rfl rfl (Nat.le_of_ble_eq_true rfl) (ty_rcS S (List.mem_of_getElem? (i := 18) rfl))) (Nat.le_of_ble_eq_true rfl) S (pr26_kind (σ := σ3) pw3.1 pw3.2.2.1 (by omega) pw3.2.2.2.1 (ps26_k A3 t2' (by first | omega | (simp only [List.length_cons, List.length_append, List.length_nil]; omega)))) ?_
  intro x hh σu S f P
  obtain ⟨e1, e2⟩ := P
  rw [e2] at S
  rw [e1]
  clear e1 e2
  replace fr := mi_Fm_tr fr f
  refine mi_s_k (pc' := 47) (e := 13) rfl rfl rfl (by decide +kernel) ?_
  refine mi_s_if2 (t := 12) rfl rfl rfl (by unfold mi_R; omega) (by unfold mi_R; omega) (fun hc_ => absurd (show (17 : Int) = 13 from hc_) (by omega)) (fun _ => ?_)
  refine mi_wp_p (pc' := 51) (st' := [.ref 42]) rfl rfl rfl ?_
  refine mi_s_k (pc' := 53) (e := 17) rfl rfl rfl (by decide +kernel) ?_
  refine ty_s_cv rfl rfl rfl rfl rfl rfl (mi_cal_v2 (np := 1) (args := [.ref 42, .int (Int32.ofInt 17)]) (rest := []) rfl rfl rfl rfl rfl (Nat.le_of_ble_eq_true rfl) rfl rfl (Nat.le_of_ble_eq_true rfl) (ty_rcS S (List.mem_of_getElem? (i := 18) rfl))) (Nat.le_of_ble_eq_true rfl) S (pr26_take (σ := σ3) pw3.1 pw3.2.2.1 (by omega) pw3.2.2.2.1 (ps26_k A3 t2' (by first | omega | (simp only [List.length_cons, List.length_append, List.length_nil]; omega))) (by omega)) ?_
  intro hh σ4 S f P4
  have A4 := ps26_tr pw.2.2.2.2 A3 P4
  have pw4 := ps26_pw A4 pw (by omega)
  have g4 := ps26_7 A4
  try simp only [List.length_append, List.length_cons, List.length_nil] at g4
  replace fr := mi_Fm_tr fr f
  refine mi_wp_p (pc' := 57) (st' := [.ref 42]) rfl rfl rfl ?_
  refine mi_wp_p (pc' := 58) (st' := [.int (Int32.ofInt dd), .ref 42]) rfl rfl rfl ?_
  refine mi_wp_p (pc' := 59) (st' := [.int (Int32.ofInt 1), .int (Int32.ofInt dd), .ref 42]) rfl rfl rfl ?_
  refine mi_s_add rfl rfl ?_
  have ep5 : mi_sF σ4 42 3 = mi_sF σ 42 3 + (3) := by omega
  have es5 : mi_sF σ4 26 7 = mi_sF σ 26 7 + (1) := (by first | omega | (simp only [List.length_cons, List.length_append, List.length_nil]; omega))
  have Tk5 := tq_ps26 (p' := mi_sF σ4 42 3) A4 T3 (by omega)
  have hn5 : mi_sA σ4 5 (mi_sF σ4 42 3 + ((ts.length : Int))) = kx := ps26_k2 A4 hkx (by first | omega | (simp only [List.length_cons, List.length_append, List.length_nil]; omega))
  have hr5 : mi_sF σ4 26 7 + (l (mi_sF σ4 42 3) (mi_sF σ4 26 7)).length ≤ 1000 := by
    try rw [ep5, es5]
    omega
  refine ty_s_ci rfl rfl rfl rfl rfl rfl (mi_cal_v2 (np := 1) (args := [.ref 42, .int (Int32.ofInt (dd + 1))]) (rest := []) rfl rfl rfl rfl rfl (Nat.le_of_ble_eq_true rfl) rfl rfl (Nat.le_of_ble_eq_true rfl) (ty_rcS S (List.mem_of_getElem? (i := 18) rfl))) (Nat.le_of_ble_eq_true rfl) S (hA σ4 kx pw4 Tk5 (by first | omega | (simp only [List.length_cons, List.length_append, List.length_nil]; omega)) hn5 hfe hr5) ?_
  intro x5 hh σ5 S f P0
  obtain ⟨e1, P5⟩ := P0
  try rw [ep5, es5] at P5 e1
  rw [e1]
  clear e1
  have A5 := ps26_tr pw.2.2.2.2 A4 P5
  have pw5 := ps26_pw A5 pw (by omega)
  have g5 := ps26_7 A5
  try simp only [List.length_append, List.length_cons, List.length_nil] at g5
  replace fr := mi_Fm_tr fr f
  refine mi_wp_p (pc' := 65) (l' := [(4, .int (Int32.ofInt (r (mi_sF σ 42 3 + (3)) (mi_sF σ 26 7 + (1))))), (3, .int (Int32.ofInt (0 + 1))), (2, .int (Int32.ofInt (mi_sF σ 42 3))), (0, .ref 42), (1, .int (Int32.ofInt dd))]) (st' := []) rfl rfl rfl ?_
  refine mi_wp_p (pc' := 66) (st' := [.ref 42]) rfl rfl rfl ?_
  refine mi_s_k (pc' := 68) (e := 30) rfl rfl rfl (by decide +kernel) ?_
  refine mi_wp_p (pc' := 70) (st' := [.int (Int32.ofInt (r (mi_sF σ 42 3 + (3)) (mi_sF σ 26 7 + (1)))), .int (Int32.ofInt 30), .ref 42]) rfl rfl rfl ?_
  refine mi_wp_p (pc' := 71) (st' := [.int (Int32.ofInt (0 + 1)), .int (Int32.ofInt (r (mi_sF σ 42 3 + (3)) (mi_sF σ 26 7 + (1)))), .int (Int32.ofInt 30), .ref 42]) rfl rfl rfl ?_
  refine mi_wp_p (pc' := 72) (st' := [.int (Int32.ofInt (mi_sF σ 42 3)), .int (Int32.ofInt (0 + 1)), .int (Int32.ofInt (r (mi_sF σ 42 3 + (3)) (mi_sF σ 26 7 + (1)))), .int (Int32.ofInt 30), .ref 42]) rfl rfl rfl ?_
  refine ty_s_ci rfl rfl rfl rfl rfl rfl (mi_cal_v2 (np := 4) (args := [.ref 42, .int (Int32.ofInt 30), .int (Int32.ofInt (r (mi_sF σ 42 3 + (3)) (mi_sF σ 26 7 + (1)))), .int (Int32.ofInt (0 + 1)), .int (Int32.ofInt (mi_sF σ 42 3))]) (rest := []) rfl rfl rfl rfl rfl (Nat.le_of_ble_eq_true rfl) rfl rfl (Nat.le_of_ble_eq_true rfl) (ty_rcS S (List.mem_of_getElem? (i := 18) rfl))) (Nat.le_of_ble_eq_true rfl) S (pr26_addExpression (σ := σ5) pw5 (by omega) (by omega) (by omega) (by omega)) ?_
  intro x hh σ6 S f P0
  obtain ⟨e1, P6⟩ := P0
  rw [e1]
  clear e1
  have A6 := ps26_tr pw.2.2.2.2 A5 P6
  have pw6 := ps26_pw A6 pw (by omega)
  have g6 := ps26_7 A6
  try simp only [List.length_append, List.length_cons, List.length_nil] at g6
  replace fr := mi_Fm_tr fr f
  exact ty_s_ret S fr rfl rfl rfl (mi_ret_i rfl) ⟨_, rfl, (by first | rfl | (simp only [Int.add_zero]; done) | (dsimp only; omega) | (dsimp only; simp only [List.length_cons, List.length_append, List.length_nil]; omega)), ps26_eq A6 (by first | omega | (simp only [List.length_cons, List.length_append, List.length_nil]; omega)) (by first | rfl | simp only [g1.2.1, g2.2.1, g3.2.1, g4.2.1, g5.2.1, g6.2.1, List.nil_append, List.append_nil, List.append_assoc, List.cons_append, Int.add_zero, Int.zero_add, Int.add_assoc, Int.reduceAdd])⟩
theorem pr26_exprF {X : mi_X} {d : Nat} {dd : Int} {ts : List Int} {l : Int → Int → List (Int × Int × Int)} {r : Int → Int → Int} (hdd : 0 ≤ dd ∧ dd ≤ 12) (hA : ES26 X (d + 9) mi_M69 dd (4 :: ts) l r) : ES26 X (d + 10) mi_M65 dd (4 :: ts) (fun p s => l p s) (fun p s => r p s) := by
  intro σ kx pw T hlen hkx hfe hroom h S
  have fr := mi_Fm_rf h
  have A0 := ps26_rf (σ := σ)
  have pw0 := pw
  obtain ⟨q1, q2, q3, q4, q5⟩ := pw0
  have fkx : 0 ≤ kx ∧ kx ≤ 59 ∧ kx ≠ 42 ∧ kx ≠ 43 ∧ kx ≠ 45 := by unfold fe at hfe; omega
  try simp only [List.length_cons, List.length_append, List.length_nil] at hlen
  try simp only [List.length_cons, List.length_append, List.length_nil] at hroom
  obtain ⟨t0, -⟩ := tq_cons T
  have T0 := T
  refine mi_wp_p (pc' := 1) (st' := [.int (Int32.ofInt dd)]) rfl rfl rfl ?_
  refine mi_s_k (pc' := 3) (e := 12) rfl rfl rfl (by decide +kernel) ?_
  refine mi_s_if2 (t := 12) rfl rfl rfl (by unfold mi_R; omega) (by unfold mi_R; omega) (fun _ => ?_) (fun hc_ => absurd (show dd ≤ 12 by omega) hc_)
  refine mi_wp_p (pc' := 13) (st' := [.ref 42]) rfl rfl rfl ?_
  refine ty_s_ci rfl rfl rfl rfl rfl rfl (mi_cal_v2 (np := 0) (args := [.ref 42]) (rest := []) rfl rfl rfl rfl rfl (Nat.le_of_ble_eq_true rfl) rfl rfl (Nat.le_of_ble_eq_true rfl) (ty_rcS S (List.mem_of_getElem? (i := 18) rfl))) (Nat.le_of_ble_eq_true rfl) S (pr26_kind (σ := σ) pw.1 pw.2.2.1 (by omega) pw.2.2.2.1 (ps26_k A0 t0 (by first | omega | (simp only [List.length_cons, List.length_append, List.length_nil]; omega)))) ?_
  intro x hh σu S f P
  obtain ⟨e1, e2⟩ := P
  rw [e2] at S
  rw [e1]
  clear e1 e2
  replace fr := mi_Fm_tr fr f
  refine mi_wp_p (pc' := 66) (l' := [(0, .ref 42), (1, .int (Int32.ofInt dd))]) (st' := []) rfl rfl rfl ?_
  refine mi_wp_p (pc' := 67) (st' := [.ref 42]) rfl rfl rfl ?_
  refine mi_wp_p (pc' := 68) (st' := [.int (Int32.ofInt dd), .ref 42]) rfl rfl rfl ?_
  have ep1 : mi_sF σ 42 3 = mi_sF σ 42 3 := by omega
  have es1 : mi_sF σ 26 7 = mi_sF σ 26 7 := (by first | omega | (simp only [List.length_cons, List.length_append, List.length_nil]; omega))
  have Tk1 := tq_ps26 (p' := mi_sF σ 42 3) A0 T0 (by omega)
  have hn1 : mi_sA σ 5 (mi_sF σ 42 3 + (((4 :: ts).length : Int))) = kx := ps26_k2 A0 hkx (by first | omega | (simp only [List.length_cons, List.length_append, List.length_nil]; omega))
  have hr1 : mi_sF σ 26 7 + (l (mi_sF σ 42 3) (mi_sF σ 26 7)).length ≤ 1000 := by
    try rw [ep1, es1]
    omega
  refine ty_s_ci rfl rfl rfl rfl rfl rfl (mi_cal_v2 (np := 1) (args := [.ref 42, .int (Int32.ofInt dd)]) (rest := []) rfl rfl rfl rfl rfl (Nat.le_of_ble_eq_true rfl) rfl rfl (Nat.le_of_ble_eq_true rfl) (ty_rcS S (List.mem_of_getElem? (i := 18) rfl))) (Nat.le_of_ble_eq_true rfl) S (hA σ kx pw Tk1 (by first | omega | (simp only [List.length_cons, List.length_append, List.length_nil]; omega)) hn1 hfe hr1) ?_
  intro x1 hh σ1 S f P0
  obtain ⟨e1, P1⟩ := P0
  try rw [ep1, es1] at P1 e1
  rw [e1]
  clear e1
  have A1 := ps26_tr pw.2.2.2.2 A0 P1
  have pw1 := ps26_pw A1 pw (by omega)
  have g1 := ps26_7 A1
  try simp only [List.length_append, List.length_cons, List.length_nil] at g1
  replace fr := mi_Fm_tr fr f
  exact ty_s_ret S fr rfl rfl rfl (mi_ret_i rfl) ⟨_, rfl, (by first | rfl | (simp only [Int.add_zero]; done) | (dsimp only; omega) | (dsimp only; simp only [List.length_cons, List.length_append, List.length_nil]; omega)), ps26_eq A1 (by first | omega | (simp only [List.length_cons, List.length_append, List.length_nil]; omega)) (by first | rfl | simp only [g1.2.1, List.nil_append, List.append_nil, List.append_assoc, List.cons_append, Int.add_zero, Int.zero_add, Int.add_assoc, Int.reduceAdd])⟩
theorem pr26_let {X : mi_X} {d : Nat} {dd : Int} {ts ts' : List Int} {l l' : Int → Int → List (Int × Int × Int)} {r r' : Int → Int → Int} (hA : ES26 X (d + 5) mi_M65 (dd + 1) ts l r) (hB : ES26 X (d + 5) mi_M65 (dd + 1) ts' l' r') : ES26 X (d + 6) mi_M72 dd (2 :: 13 :: 61 :: (ts ++ 3 :: ts')) (fun p s => l (p + 3) s ++ (16, r (p + 3) s, p + 1) :: (l' (p + (3 + (ts.length + 1))) (s + ((l (p + 3) s).length + 1)) ++ [(31, r' (p + (3 + (ts.length + 1))) (s + ((l (p + 3) s).length + 1)), 0)])) (fun p s => s + ((l (p + 3) s).length + 1) + (l' (p + (3 + (ts.length + 1))) (s + ((l (p + 3) s).length + 1))).length) := by
  intro σ kx pw T hlen hkx hfe hroom h S
  have fr := mi_Fm_rf h
  have A0 := ps26_rf (σ := σ)
  have pw0 := pw
  obtain ⟨q1, q2, q3, q4, q5⟩ := pw0
  have fkx : 0 ≤ kx ∧ kx ≤ 59 ∧ kx ≠ 42 ∧ kx ≠ 43 ∧ kx ≠ 45 := by unfold fe at hfe; omega
  try simp only [List.length_cons, List.length_append, List.length_nil] at hlen
  try simp only [List.length_cons, List.length_append, List.length_nil] at hroom
  obtain ⟨t0, T1⟩ := tq_cons T
  obtain ⟨t1, T2⟩ := tq_cons T1
  obtain ⟨t2, T3⟩ := tq_cons T2
  obtain ⟨Ta, T4⟩ := tq_app T3
  obtain ⟨t3, Tb⟩ := tq_cons T4
  have t1' : mi_sA σ 5 (mi_sF σ 42 3 + 1) = 13 := by rw [← t1]; congr 1; omega
  have t2' : mi_sA σ 5 (mi_sF σ 42 3 + 2) = 61 := by rw [← t2]; congr 1; omega
  have t3' : mi_sA σ 5 (mi_sF σ 42 3 + (3 + ts.length)) = 3 := by rw [← t3]; congr 1; omega
  rw [show mi_sF σ 42 3 + 1 + 1 + 1 = mi_sF σ 42 3 + 3 by omega] at Ta
  rw [show mi_sF σ 42 3 + 1 + 1 + 1 + (ts.length : Int) + 1 = mi_sF σ 42 3 + (3 + (ts.length + 1)) by omega] at Tb
  refine mi_wp_p (pc' := 1) (st' := [.ref 42]) rfl rfl rfl ?_
  refine ty_s_gf (x := mi_sF σ 42 3) S rfl rfl rfl (List.mem_of_getElem? (i := 18) rfl) rfl ?_
  refine mi_wp_p (pc' := 5) (l' := [(2, .int (Int32.ofInt (mi_sF σ 42 3))), (0, .ref 42), (1, .int (Int32.ofInt dd))]) (st' := []) rfl rfl rfl ?_
  refine mi_wp_p (pc' := 6) (st' := [.ref 42]) rfl rfl rfl ?_
  refine mi_wp_p (pc' := 7) (st' := [.int (Int32.ofInt 2), .ref 42]) rfl rfl rfl ?_
  refine ty_s_cv rfl rfl rfl rfl rfl rfl (mi_cal_v2 (np := 1) (args := [.ref 42, .int (Int32.ofInt 2)]) (rest := []) rfl rfl rfl rfl rfl (Nat.le_of_ble_eq_true rfl) rfl rfl (Nat.le_of_ble_eq_true rfl) (ty_rcS S (List.mem_of_getElem? (i := 18) rfl))) (Nat.le_of_ble_eq_true rfl) S (pr26_take (σ := σ) pw.1 pw.2.2.1 (by omega) pw.2.2.2.1 (ps26_k A0 t0 (by first | omega | (simp only [List.length_cons, List.length_append, List.length_nil]; omega))) (by omega)) ?_
  intro hh σ1 S f P1
  have A1 := ps26_tr pw.2.2.2.2 A0 P1
  have pw1 := ps26_pw A1 pw (by omega)
  have g1 := ps26_7 A1
  try simp only [List.length_append, List.length_cons, List.length_nil] at g1
  replace fr := mi_Fm_tr fr f
  refine mi_wp_p (pc' := 11) (st' := [.ref 42]) rfl rfl rfl ?_
  refine ty_s_gf (x := mi_sF σ1 42 3) S rfl rfl rfl (List.mem_of_getElem? (i := 18) rfl) rfl ?_
  refine mi_wp_p (pc' := 15) (l' := [(3, .int (Int32.ofInt (mi_sF σ1 42 3))), (2, .int (Int32.ofInt (mi_sF σ 42 3))), (0, .ref 42), (1, .int (Int32.ofInt dd))]) (st' := []) rfl rfl rfl ?_
  refine mi_wp_p (pc' := 16) (st' := [.ref 42]) rfl rfl rfl ?_
  refine mi_s_k (pc' := 18) (e := 13) rfl rfl rfl (by decide +kernel) ?_
  refine ty_s_cv rfl rfl rfl rfl rfl rfl (mi_cal_v2 (np := 1) (args := [.ref 42, .int (Int32.ofInt 13)]) (rest := []) rfl rfl rfl rfl rfl (Nat.le_of_ble_eq_true rfl) rfl rfl (Nat.le_of_ble_eq_true rfl) (ty_rcS S (List.mem_of_getElem? (i := 18) rfl))) (Nat.le_of_ble_eq_true rfl) S (pr26_take (σ := σ1) pw1.1 pw1.2.2.1 (by omega) pw1.2.2.2.1 (ps26_k A1 t1' (by first | omega | (simp only [List.length_cons, List.length_append, List.length_nil]; omega))) (by omega)) ?_
  intro hh σ2 S f P2
  have A2 := ps26_tr pw.2.2.2.2 A1 P2
  have pw2 := ps26_pw A2 pw (by omega)
  have g2 := ps26_7 A2
  try simp only [List.length_append, List.length_cons, List.length_nil] at g2
  replace fr := mi_Fm_tr fr f
  refine mi_wp_p (pc' := 22) (st' := [.ref 42]) rfl rfl rfl ?_
  refine mi_s_k (pc' := 24) (e := 61) rfl rfl rfl (by decide +kernel) ?_
  refine ty_s_cv rfl rfl rfl rfl rfl rfl (mi_cal_v2 (np := 1) (args := [.ref 42, .int (Int32.ofInt 61)]) (rest := []) rfl rfl rfl rfl rfl (Nat.le_of_ble_eq_true rfl) rfl rfl (Nat.le_of_ble_eq_true rfl) (ty_rcS S (List.mem_of_getElem? (i := 18) rfl))) (Nat.le_of_ble_eq_true rfl) S (pr26_take (σ := σ2) pw2.1 pw2.2.2.1 (by omega) pw2.2.2.2.1 (ps26_k A2 t2' (by first | omega | (simp only [List.length_cons, List.length_append, List.length_nil]; omega))) (by omega)) ?_
  intro hh σ3 S f P3
  have A3 := ps26_tr pw.2.2.2.2 A2 P3
  have pw3 := ps26_pw A3 pw (by omega)
  have g3 := ps26_7 A3
  try simp only [List.length_append, List.length_cons, List.length_nil] at g3
  replace fr := mi_Fm_tr fr f
  refine mi_wp_p (pc' := 28) (st' := [.ref 42]) rfl rfl rfl ?_
  refine mi_wp_p (pc' := 29) (st' := [.int (Int32.ofInt dd), .ref 42]) rfl rfl rfl ?_
  refine mi_wp_p (pc' := 30) (st' := [.int (Int32.ofInt 1), .int (Int32.ofInt dd), .ref 42]) rfl rfl rfl ?_
  refine mi_s_add rfl rfl ?_
  have ep4 : mi_sF σ3 42 3 = mi_sF σ 42 3 + (3) := by omega
  have es4 : mi_sF σ3 26 7 = mi_sF σ 26 7 := (by first | omega | (simp only [List.length_cons, List.length_append, List.length_nil]; omega))
  have Tk4 := tq_ps26 (p' := mi_sF σ3 42 3) A3 Ta (by omega)
  have hn4 : mi_sA σ3 5 (mi_sF σ3 42 3 + ((ts.length : Int))) = 3 := ps26_k2 A3 t3' (by first | omega | (simp only [List.length_cons, List.length_append, List.length_nil]; omega))
  have hr4 : mi_sF σ3 26 7 + (l (mi_sF σ3 42 3) (mi_sF σ3 26 7)).length ≤ 1000 := by
    try rw [ep4, es4]
    omega
  refine ty_s_ci rfl rfl rfl rfl rfl rfl (mi_cal_v2 (np := 1) (args := [.ref 42, .int (Int32.ofInt (dd + 1))]) (rest := []) rfl rfl rfl rfl rfl (Nat.le_of_ble_eq_true rfl) rfl rfl (Nat.le_of_ble_eq_true rfl) (ty_rcS S (List.mem_of_getElem? (i := 18) rfl))) (Nat.le_of_ble_eq_true rfl) S (hA σ3 3 pw3 Tk4 (by first | omega | (simp only [List.length_cons, List.length_append, List.length_nil]; omega)) hn4 (by unfold fe; omega) hr4) ?_
  intro x4 hh σ4 S f P0
  obtain ⟨e1, P4⟩ := P0
  try rw [ep4, es4] at P4 e1
  rw [e1]
  clear e1
  have A4 := ps26_tr pw.2.2.2.2 A3 P4
  have pw4 := ps26_pw A4 pw (by omega)
  have g4 := ps26_7 A4
  try simp only [List.length_append, List.length_cons, List.length_nil] at g4
  replace fr := mi_Fm_tr fr f
  refine mi_wp_p (pc' := 36) (l' := [(4, .int (Int32.ofInt (r (mi_sF σ 42 3 + (3)) (mi_sF σ 26 7)))), (3, .int (Int32.ofInt (mi_sF σ1 42 3))), (2, .int (Int32.ofInt (mi_sF σ 42 3))), (0, .ref 42), (1, .int (Int32.ofInt dd))]) (st' := []) rfl rfl rfl ?_
  refine mi_wp_p (pc' := 37) (st' := [.ref 42]) rfl rfl rfl ?_
  refine mi_s_k (pc' := 39) (e := 16) rfl rfl rfl (by decide +kernel) ?_
  refine mi_wp_p (pc' := 41) (st' := [.int (Int32.ofInt (r (mi_sF σ 42 3 + (3)) (mi_sF σ 26 7))), .int (Int32.ofInt 16), .ref 42]) rfl rfl rfl ?_
  refine mi_wp_p (pc' := 42) (st' := [.int (Int32.ofInt (mi_sF σ1 42 3)), .int (Int32.ofInt (r (mi_sF σ 42 3 + (3)) (mi_sF σ 26 7))), .int (Int32.ofInt 16), .ref 42]) rfl rfl rfl ?_
  refine mi_wp_p (pc' := 43) (st' := [.int (Int32.ofInt 0), .int (Int32.ofInt (mi_sF σ1 42 3)), .int (Int32.ofInt (r (mi_sF σ 42 3 + (3)) (mi_sF σ 26 7))), .int (Int32.ofInt 16), .ref 42]) rfl rfl rfl ?_
  refine ty_s_ci rfl rfl rfl rfl rfl rfl (mi_cal_v2 (np := 4) (args := [.ref 42, .int (Int32.ofInt 16), .int (Int32.ofInt (r (mi_sF σ 42 3 + (3)) (mi_sF σ 26 7))), .int (Int32.ofInt (mi_sF σ1 42 3)), .int (Int32.ofInt 0)]) (rest := []) rfl rfl rfl rfl rfl (Nat.le_of_ble_eq_true rfl) rfl rfl (Nat.le_of_ble_eq_true rfl) (ty_rcS S (List.mem_of_getElem? (i := 18) rfl))) (Nat.le_of_ble_eq_true rfl) S (pr26_add (σ := σ4) pw4 (by omega)) ?_
  intro x hh σ5 S f P0
  obtain ⟨e1, P5⟩ := P0
  rw [e1]
  clear e1
  have A5 := ps26_tr pw.2.2.2.2 A4 P5
  have pw5 := ps26_pw A5 pw (by omega)
  have g5 := ps26_7 A5
  try simp only [List.length_append, List.length_cons, List.length_nil] at g5
  replace fr := mi_Fm_tr fr f
  refine mi_wp_p (pc' := 47) (st' := []) rfl rfl rfl ?_
  refine mi_wp_p (pc' := 48) (st' := [.ref 42]) rfl rfl rfl ?_
  refine mi_wp_p (pc' := 49) (st' := [.int (Int32.ofInt 3), .ref 42]) rfl rfl rfl ?_
  refine ty_s_cv rfl rfl rfl rfl rfl rfl (mi_cal_v2 (np := 1) (args := [.ref 42, .int (Int32.ofInt 3)]) (rest := []) rfl rfl rfl rfl rfl (Nat.le_of_ble_eq_true rfl) rfl rfl (Nat.le_of_ble_eq_true rfl) (ty_rcS S (List.mem_of_getElem? (i := 18) rfl))) (Nat.le_of_ble_eq_true rfl) S (pr26_take (σ := σ5) pw5.1 pw5.2.2.1 (by omega) pw5.2.2.2.1 (ps26_k A5 t3' (by first | omega | (simp only [List.length_cons, List.length_append, List.length_nil]; omega))) (by omega)) ?_
  intro hh σ6 S f P6
  have A6 := ps26_tr pw.2.2.2.2 A5 P6
  have pw6 := ps26_pw A6 pw (by omega)
  have g6 := ps26_7 A6
  try simp only [List.length_append, List.length_cons, List.length_nil] at g6
  replace fr := mi_Fm_tr fr f
  refine mi_wp_p (pc' := 53) (st' := [.ref 42]) rfl rfl rfl ?_
  refine mi_wp_p (pc' := 54) (st' := [.int (Int32.ofInt dd), .ref 42]) rfl rfl rfl ?_
  refine mi_wp_p (pc' := 55) (st' := [.int (Int32.ofInt 1), .int (Int32.ofInt dd), .ref 42]) rfl rfl rfl ?_
  refine mi_s_add rfl rfl ?_
  have ep7 : mi_sF σ6 42 3 = mi_sF σ 42 3 + (3 + (ts.length + 1)) := by omega
  have es7 : mi_sF σ6 26 7 = mi_sF σ 26 7 + ((l (mi_sF σ 42 3 + 3) (mi_sF σ 26 7)).length + 1) := (by first | omega | (simp only [List.length_cons, List.length_append, List.length_nil]; omega))
  have Tk7 := tq_ps26 (p' := mi_sF σ6 42 3) A6 Tb (by omega)
  have hn7 : mi_sA σ6 5 (mi_sF σ6 42 3 + ((ts'.length : Int))) = kx := ps26_k2 A6 hkx (by first | omega | (simp only [List.length_cons, List.length_append, List.length_nil]; omega))
  have hr7 : mi_sF σ6 26 7 + (l' (mi_sF σ6 42 3) (mi_sF σ6 26 7)).length ≤ 1000 := by
    try rw [ep7, es7]
    omega
  refine ty_s_ci rfl rfl rfl rfl rfl rfl (mi_cal_v2 (np := 1) (args := [.ref 42, .int (Int32.ofInt (dd + 1))]) (rest := []) rfl rfl rfl rfl rfl (Nat.le_of_ble_eq_true rfl) rfl rfl (Nat.le_of_ble_eq_true rfl) (ty_rcS S (List.mem_of_getElem? (i := 18) rfl))) (Nat.le_of_ble_eq_true rfl) S (hB σ6 kx pw6 Tk7 (by first | omega | (simp only [List.length_cons, List.length_append, List.length_nil]; omega)) hn7 hfe hr7) ?_
  intro x7 hh σ7 S f P0
  obtain ⟨e1, P7⟩ := P0
  try rw [ep7, es7] at P7 e1
  rw [e1]
  clear e1
  have A7 := ps26_tr pw.2.2.2.2 A6 P7
  have pw7 := ps26_pw A7 pw (by omega)
  have g7 := ps26_7 A7
  try simp only [List.length_append, List.length_cons, List.length_nil] at g7
  replace fr := mi_Fm_tr fr f
  refine mi_wp_p (pc' := 61) (l' := [(5, .int (Int32.ofInt (r' (mi_sF σ 42 3 + (3 + (ts.length + 1))) (mi_sF σ 26 7 + ((l (mi_sF σ 42 3 + 3) (mi_sF σ 26 7)).length + 1))))), (4, .int (Int32.ofInt (r (mi_sF σ 42 3 + (3)) (mi_sF σ 26 7)))), (3, .int (Int32.ofInt (mi_sF σ1 42 3))), (2, .int (Int32.ofInt (mi_sF σ 42 3))), (0, .ref 42), (1, .int (Int32.ofInt dd))]) (st' := []) rfl rfl rfl ?_
  refine mi_wp_p (pc' := 62) (st' := [.ref 42]) rfl rfl rfl ?_
  refine mi_s_k (pc' := 64) (e := 31) rfl rfl rfl (by decide +kernel) ?_
  refine mi_wp_p (pc' := 66) (st' := [.int (Int32.ofInt (r' (mi_sF σ 42 3 + (3 + (ts.length + 1))) (mi_sF σ 26 7 + ((l (mi_sF σ 42 3 + 3) (mi_sF σ 26 7)).length + 1)))), .int (Int32.ofInt 31), .ref 42]) rfl rfl rfl ?_
  refine mi_wp_p (pc' := 67) (st' := [.int (Int32.ofInt 0), .int (Int32.ofInt (r' (mi_sF σ 42 3 + (3 + (ts.length + 1))) (mi_sF σ 26 7 + ((l (mi_sF σ 42 3 + 3) (mi_sF σ 26 7)).length + 1)))), .int (Int32.ofInt 31), .ref 42]) rfl rfl rfl ?_
  refine mi_wp_p (pc' := 68) (st' := [.int (Int32.ofInt (mi_sF σ 42 3)), .int (Int32.ofInt 0), .int (Int32.ofInt (r' (mi_sF σ 42 3 + (3 + (ts.length + 1))) (mi_sF σ 26 7 + ((l (mi_sF σ 42 3 + 3) (mi_sF σ 26 7)).length + 1)))), .int (Int32.ofInt 31), .ref 42]) rfl rfl rfl ?_
  refine ty_s_ci rfl rfl rfl rfl rfl rfl (mi_cal_v2 (np := 4) (args := [.ref 42, .int (Int32.ofInt 31), .int (Int32.ofInt (r' (mi_sF σ 42 3 + (3 + (ts.length + 1))) (mi_sF σ 26 7 + ((l (mi_sF σ 42 3 + 3) (mi_sF σ 26 7)).length + 1)))), .int (Int32.ofInt 0), .int (Int32.ofInt (mi_sF σ 42 3))]) (rest := []) rfl rfl rfl rfl rfl (Nat.le_of_ble_eq_true rfl) rfl rfl (Nat.le_of_ble_eq_true rfl) (ty_rcS S (List.mem_of_getElem? (i := 18) rfl))) (Nat.le_of_ble_eq_true rfl) S (pr26_addExpression (σ := σ7) pw7 (by omega) (by omega) (by omega) (by omega)) ?_
  intro x hh σ8 S f P0
  obtain ⟨e1, P8⟩ := P0
  rw [e1]
  clear e1
  have A8 := ps26_tr pw.2.2.2.2 A7 P8
  have pw8 := ps26_pw A8 pw (by omega)
  have g8 := ps26_7 A8
  try simp only [List.length_append, List.length_cons, List.length_nil] at g8
  replace fr := mi_Fm_tr fr f
  exact ty_s_ret S fr rfl rfl rfl (mi_ret_i rfl) ⟨_, rfl, (by first | rfl | (simp only [Int.add_zero]; done) | (dsimp only; omega) | (dsimp only; simp only [List.length_cons, List.length_append, List.length_nil]; omega)), ps26_eq A8 (by first | omega | (simp only [List.length_cons, List.length_append, List.length_nil]; omega)) (by first | rfl | simp only [g1.2.1, g2.2.1, g3.2.1, g4.2.1, g5.2.1, g6.2.1, g7.2.1, g8.2.1, List.nil_append, List.append_nil, List.append_assoc, List.cons_append, Int.add_zero, Int.zero_add, Int.add_assoc, Int.reduceAdd])⟩
theorem pr26_exprL {X : mi_X} {d : Nat} {dd : Int} {ts : List Int} {l : Int → Int → List (Int × Int × Int)} {r : Int → Int → Int} (hdd : 0 ≤ dd ∧ dd ≤ 12) (hA : ES26 X (d + 9) mi_M72 dd (2 :: ts) l r) : ES26 X (d + 10) mi_M65 dd (2 :: ts) (fun p s => l p s) (fun p s => r p s) := by
  intro σ kx pw T hlen hkx hfe hroom h S
  have fr := mi_Fm_rf h
  have A0 := ps26_rf (σ := σ)
  have pw0 := pw
  obtain ⟨q1, q2, q3, q4, q5⟩ := pw0
  have fkx : 0 ≤ kx ∧ kx ≤ 59 ∧ kx ≠ 42 ∧ kx ≠ 43 ∧ kx ≠ 45 := by unfold fe at hfe; omega
  try simp only [List.length_cons, List.length_append, List.length_nil] at hlen
  try simp only [List.length_cons, List.length_append, List.length_nil] at hroom
  obtain ⟨t0, -⟩ := tq_cons T
  have T0 := T
  refine mi_wp_p (pc' := 1) (st' := [.int (Int32.ofInt dd)]) rfl rfl rfl ?_
  refine mi_s_k (pc' := 3) (e := 12) rfl rfl rfl (by decide +kernel) ?_
  refine mi_s_if2 (t := 12) rfl rfl rfl (by unfold mi_R; omega) (by unfold mi_R; omega) (fun _ => ?_) (fun hc_ => absurd (show dd ≤ 12 by omega) hc_)
  refine mi_wp_p (pc' := 13) (st' := [.ref 42]) rfl rfl rfl ?_
  refine ty_s_ci rfl rfl rfl rfl rfl rfl (mi_cal_v2 (np := 0) (args := [.ref 42]) (rest := []) rfl rfl rfl rfl rfl (Nat.le_of_ble_eq_true rfl) rfl rfl (Nat.le_of_ble_eq_true rfl) (ty_rcS S (List.mem_of_getElem? (i := 18) rfl))) (Nat.le_of_ble_eq_true rfl) S (pr26_kind (σ := σ) pw.1 pw.2.2.1 (by omega) pw.2.2.2.1 (ps26_k A0 t0 (by first | omega | (simp only [List.length_cons, List.length_append, List.length_nil]; omega)))) ?_
  intro x hh σu S f P
  obtain ⟨e1, e2⟩ := P
  rw [e2] at S
  rw [e1]
  clear e1 e2
  replace fr := mi_Fm_tr fr f
  refine mi_wp_p (pc' := 60) (l' := [(0, .ref 42), (1, .int (Int32.ofInt dd))]) (st' := []) rfl rfl rfl ?_
  refine mi_wp_p (pc' := 61) (st' := [.ref 42]) rfl rfl rfl ?_
  refine mi_wp_p (pc' := 62) (st' := [.int (Int32.ofInt dd), .ref 42]) rfl rfl rfl ?_
  have ep1 : mi_sF σ 42 3 = mi_sF σ 42 3 := by omega
  have es1 : mi_sF σ 26 7 = mi_sF σ 26 7 := (by first | omega | (simp only [List.length_cons, List.length_append, List.length_nil]; omega))
  have Tk1 := tq_ps26 (p' := mi_sF σ 42 3) A0 T0 (by omega)
  have hn1 : mi_sA σ 5 (mi_sF σ 42 3 + (((2 :: ts).length : Int))) = kx := ps26_k2 A0 hkx (by first | omega | (simp only [List.length_cons, List.length_append, List.length_nil]; omega))
  have hr1 : mi_sF σ 26 7 + (l (mi_sF σ 42 3) (mi_sF σ 26 7)).length ≤ 1000 := by
    try rw [ep1, es1]
    omega
  refine ty_s_ci rfl rfl rfl rfl rfl rfl (mi_cal_v2 (np := 1) (args := [.ref 42, .int (Int32.ofInt dd)]) (rest := []) rfl rfl rfl rfl rfl (Nat.le_of_ble_eq_true rfl) rfl rfl (Nat.le_of_ble_eq_true rfl) (ty_rcS S (List.mem_of_getElem? (i := 18) rfl))) (Nat.le_of_ble_eq_true rfl) S (hA σ kx pw Tk1 (by first | omega | (simp only [List.length_cons, List.length_append, List.length_nil]; omega)) hn1 hfe hr1) ?_
  intro x1 hh σ1 S f P0
  obtain ⟨e1, P1⟩ := P0
  try rw [ep1, es1] at P1 e1
  rw [e1]
  clear e1
  have A1 := ps26_tr pw.2.2.2.2 A0 P1
  have pw1 := ps26_pw A1 pw (by omega)
  have g1 := ps26_7 A1
  try simp only [List.length_append, List.length_cons, List.length_nil] at g1
  replace fr := mi_Fm_tr fr f
  exact ty_s_ret S fr rfl rfl rfl (mi_ret_i rfl) ⟨_, rfl, (by first | rfl | (simp only [Int.add_zero]; done) | (dsimp only; omega) | (dsimp only; simp only [List.length_cons, List.length_append, List.length_nil]; omega)), ps26_eq A1 (by first | omega | (simp only [List.length_cons, List.length_append, List.length_nil]; omega)) (by first | rfl | simp only [g1.2.1, List.nil_append, List.append_nil, List.append_assoc, List.cons_append, Int.add_zero, Int.zero_add, Int.add_assoc, Int.reduceAdd])⟩
theorem ps34_k2 {σ σ1 : mi_Sg} {n m w j : Int} {l : List (Int × Int × Int)} (a : ps34_Q σ σ1 n l) (h : mi_sA σ 5 (mi_sF σ 42 3 + m) = w) (e : n + j = m) : mi_sA σ1 5 (mi_sF σ1 42 3 + j) = w := by
  rw [a.2.1, a.1.2.1 5 _ (by decide), Int.add_assoc, e]
  exact h
theorem tq_ps34 {σ σ1 : mi_Sg} {n p p' : Int} {l : List (Int × Int × Int)} {ts : List Int} (a : ps34_Q σ σ1 n l) (h : tq σ p ts) (e : p' = p) : tq σ1 p' ts := fun i k hk => by
  rw [a.1.2.1 5 _ (by decide), e]
  exact h i k hk
/-- a method that reads an expression of the kinds ts, adds the steps l and tells the step r -/
def ES34 (X : mi_X) (d : Nat) (M : mi_M) (dd : Int) (ts : List Int) (l : Int → Int → List (Int × Int × Int)) (r : Int → Int → Int) : Prop := ∀ (σ : mi_Sg) (kx : Int), pw34 σ → tq σ (mi_sF σ 42 3) ts → mi_sF σ 42 3 + ts.length < mi_sF σ 3 7 → mi_sA σ 5 (mi_sF σ 42 3 + ts.length) = kx → fe kx → mi_sF σ 34 7 + (l (mi_sF σ 42 3) (mi_sF σ 34 7)).length ≤ 1000 → ty_Ci X d M [(0, .ref 42), (1, .int (Int32.ofInt dd))] σ (fun x σ' => x = r (mi_sF σ 42 3) (mi_sF σ 34 7) ∧ ps34_Q σ σ' ts.length (l (mi_sF σ 42 3) (mi_sF σ 34 7)))
theorem pr34_atoms0 {X : mi_X} {d : Nat} {σ : mi_Sg} {w : Int} (h0 : mi_sF σ 2 0 = 0) (h1 : 0 ≤ mi_sF σ 42 3) (h2 : mi_sF σ 42 3 < mi_sF σ 3 7) (h3 : mi_sF σ 3 7 ≤ 301) (hk : mi_sA σ 5 (mi_sF σ 42 3) = w) (hw : fe w) (hr : 0 ≤ w) : ty_Ci X (d + 2) mi_M80 [(0, .ref 42)] σ (fun x σ' => x = 0 ∧ σ' = σ) := by
  rcases hw with rfl | rfl | rfl | rfl | rfl
  · intro h S
    have fr := mi_Fm_rf h
    refine mi_wp_p (pc' := 1) (st' := [.ref 42]) rfl rfl rfl ?_
    refine ty_s_ci rfl rfl rfl rfl rfl rfl (mi_cal_v2 (np := 0) (args := [.ref 42]) (rest := []) rfl rfl rfl rfl rfl (Nat.le_of_ble_eq_true rfl) rfl rfl (Nat.le_of_ble_eq_true rfl) (ty_rcS S (List.mem_of_getElem? (i := 18) rfl))) (Nat.le_of_ble_eq_true rfl) S (pr34_kind h0 h1 h2 h3 hk) ?_
    intro x hh σu S f P
    obtain ⟨e1, e2⟩ := P
    rw [e2] at S
    rw [e1]
    clear e1 e2
    replace fr := mi_Fm_tr fr f
    refine mi_wp_p (pc' := 66) (l' := [(0, .ref 42)]) (st' := []) rfl rfl rfl ?_
    refine mi_wp_p (pc' := 67) (st' := [.int (Int32.ofInt 0)]) rfl rfl rfl ?_
    exact ty_s_ret S fr rfl rfl rfl rfl ⟨_, rfl, rfl, rfl⟩
  · intro h S
    have fr := mi_Fm_rf h
    refine mi_wp_p (pc' := 1) (st' := [.ref 42]) rfl rfl rfl ?_
    refine ty_s_ci rfl rfl rfl rfl rfl rfl (mi_cal_v2 (np := 0) (args := [.ref 42]) (rest := []) rfl rfl rfl rfl rfl (Nat.le_of_ble_eq_true rfl) rfl rfl (Nat.le_of_ble_eq_true rfl) (ty_rcS S (List.mem_of_getElem? (i := 18) rfl))) (Nat.le_of_ble_eq_true rfl) S (pr34_kind h0 h1 h2 h3 hk) ?_
    intro x hh σu S f P
    obtain ⟨e1, e2⟩ := P
    rw [e2] at S
    rw [e1]
    clear e1 e2
    replace fr := mi_Fm_tr fr f
    refine mi_wp_p (pc' := 66) (l' := [(0, .ref 42)]) (st' := []) rfl rfl rfl ?_
    refine mi_wp_p (pc' := 67) (st' := [.int (Int32.ofInt 0)]) rfl rfl rfl ?_
    exact ty_s_ret S fr rfl rfl rfl rfl ⟨_, rfl, rfl, rfl⟩
  · intro h S
    have fr := mi_Fm_rf h
    refine mi_wp_p (pc' := 1) (st' := [.ref 42]) rfl rfl rfl ?_
    refine ty_s_ci rfl rfl rfl rfl rfl rfl (mi_cal_v2 (np := 0) (args := [.ref 42]) (rest := []) rfl rfl rfl rfl rfl (Nat.le_of_ble_eq_true rfl) rfl rfl (Nat.le_of_ble_eq_true rfl) (ty_rcS S (List.mem_of_getElem? (i := 18) rfl))) (Nat.le_of_ble_eq_true rfl) S (pr34_kind h0 h1 h2 h3 hk) ?_
    intro x hh σu S f P
    obtain ⟨e1, e2⟩ := P
    rw [e2] at S
    rw [e1]
    clear e1 e2
    replace fr := mi_Fm_tr fr f
    refine mi_wp_p (pc' := 66) (l' := [(0, .ref 42)]) (st' := []) rfl rfl rfl ?_
    refine mi_wp_p (pc' := 67) (st' := [.int (Int32.ofInt 0)]) rfl rfl rfl ?_
    exact ty_s_ret S fr rfl rfl rfl rfl ⟨_, rfl, rfl, rfl⟩
  · intro h S
    have fr := mi_Fm_rf h
    refine mi_wp_p (pc' := 1) (st' := [.ref 42]) rfl rfl rfl ?_
    refine ty_s_ci rfl rfl rfl rfl rfl rfl (mi_cal_v2 (np := 0) (args := [.ref 42]) (rest := []) rfl rfl rfl rfl rfl (Nat.le_of_ble_eq_true rfl) rfl rfl (Nat.le_of_ble_eq_true rfl) (ty_rcS S (List.mem_of_getElem? (i := 18) rfl))) (Nat.le_of_ble_eq_true rfl) S (pr34_kind h0 h1 h2 h3 hk) ?_
    intro x hh σu S f P
    obtain ⟨e1, e2⟩ := P
    rw [e2] at S
    rw [e1]
    clear e1 e2
    replace fr := mi_Fm_tr fr f
    refine mi_wp_p (pc' := 66) (l' := [(0, .ref 42)]) (st' := []) rfl rfl rfl ?_
    refine mi_wp_p (pc' := 67) (st' := [.int (Int32.ofInt 0)]) rfl rfl rfl ?_
    exact ty_s_ret S fr rfl rfl rfl rfl ⟨_, rfl, rfl, rfl⟩
  · intro h S
    have fr := mi_Fm_rf h
    refine mi_wp_p (pc' := 1) (st' := [.ref 42]) rfl rfl rfl ?_
    refine ty_s_ci rfl rfl rfl rfl rfl rfl (mi_cal_v2 (np := 0) (args := [.ref 42]) (rest := []) rfl rfl rfl rfl rfl (Nat.le_of_ble_eq_true rfl) rfl rfl (Nat.le_of_ble_eq_true rfl) (ty_rcS S (List.mem_of_getElem? (i := 18) rfl))) (Nat.le_of_ble_eq_true rfl) S (pr34_kind h0 h1 h2 h3 hk) ?_
    intro x hh σu S f P
    obtain ⟨e1, e2⟩ := P
    rw [e2] at S
    rw [e1]
    clear e1 e2
    replace fr := mi_Fm_tr fr f
    refine mi_wp_p (pc' := 66) (l' := [(0, .ref 42)]) (st' := []) rfl rfl rfl ?_
    refine mi_wp_p (pc' := 67) (st' := [.int (Int32.ofInt 0)]) rfl rfl rfl ?_
    exact ty_s_ret S fr rfl rfl rfl rfl ⟨_, rfl, rfl, rfl⟩
theorem pr34_single {X : mi_X} {d : Nat} {σ : mi_Sg} (pw : pw34 σ) (hs : mi_sF σ 34 7 ≤ 1000) (h2 : mi_sF σ 42 3 + 1 ≤ mi_sF σ 3 7) (hk : mi_sA σ 5 (mi_sF σ 42 3) = 13) : ty_Ci X (d + 4) mi_M78 [(0, .ref 42), (1, .int (Int32.ofInt 21)), (2, .int (Int32.ofInt (mi_sF σ 42 3)))] σ (fun x σ' => x = mi_sF σ 34 7 ∧ ps34_Q σ σ' 1 [(21, mi_sF σ 42 3, 0)]) := by
  intro h S
  have fr := mi_Fm_rf h
  have A0 := ps34_rf (σ := σ)
  have pw0 := pw
  obtain ⟨q1, q2, q3, q4, q5⟩ := pw0
  have t0 : mi_sA σ 5 (mi_sF σ 42 3 + 0) = 13 := by rw [Int.add_zero]; exact hk
  refine mi_wp_p (pc' := 1) (st' := [.ref 42]) rfl rfl rfl ?_
  refine mi_wp_p (pc' := 2) (st' := [.ref 42, .ref 42]) rfl rfl rfl ?_
  refine ty_s_ci rfl rfl rfl rfl rfl rfl (mi_cal_v2 (np := 0) (args := [.ref 42]) (rest := [.ref 42]) rfl rfl rfl rfl rfl (Nat.le_of_ble_eq_true rfl) rfl rfl (Nat.le_of_ble_eq_true rfl) (ty_rcS S (List.mem_of_getElem? (i := 18) rfl))) (Nat.le_of_ble_eq_true rfl) S (pr34_kind (σ := σ) pw.1 pw.2.2.1 (by omega) pw.2.2.2.1 (ps34_k A0 t0 (by first | omega | (simp only [List.length_cons, List.length_append, List.length_nil]; omega)))) ?_
  intro x hh σu S f P
  obtain ⟨e1, e2⟩ := P
  rw [e2] at S
  rw [e1]
  clear e1 e2
  replace fr := mi_Fm_tr fr f
  refine ty_s_cv rfl rfl rfl rfl rfl rfl (mi_cal_v2 (np := 1) (args := [.ref 42, .int (Int32.ofInt 13)]) (rest := []) rfl rfl rfl rfl rfl (Nat.le_of_ble_eq_true rfl) rfl rfl (Nat.le_of_ble_eq_true rfl) (ty_rcS S (List.mem_of_getElem? (i := 18) rfl))) (Nat.le_of_ble_eq_true rfl) S (pr34_take (σ := σ) pw.1 pw.2.2.1 (by omega) pw.2.2.2.1 (ps34_k A0 t0 (by first | omega | (simp only [List.length_cons, List.length_append, List.length_nil]; omega))) (by omega)) ?_
  intro hh σ1 S f P1
  have A1 := ps34_tr pw.2.2.2.2 A0 P1
  have pw1 := ps34_pw A1 pw (by omega)
  have g1 := ps34_7 A1
  try simp only [List.length_append, List.length_cons, List.length_nil] at g1
  replace fr := mi_Fm_tr fr f
  refine mi_wp_p (pc' := 9) (st' := [.ref 42]) rfl rfl rfl ?_
  refine mi_wp_p (pc' := 10) (st' := [.int (Int32.ofInt 21), .ref 42]) rfl rfl rfl ?_
  refine mi_wp_p (pc' := 11) (st' := [.int (Int32.ofInt (mi_sF σ 42 3)), .int (Int32.ofInt 21), .ref 42]) rfl rfl rfl ?_
  refine mi_wp_p (pc' := 12) (st' := [.int (Int32.ofInt 0), .int (Int32.ofInt (mi_sF σ 42 3)), .int (Int32.ofInt 21), .ref 42]) rfl rfl rfl ?_
  refine mi_wp_p (pc' := 13) (st' := [.int (Int32.ofInt (mi_sF σ 42 3)), .int (Int32.ofInt 0), .int (Int32.ofInt (mi_sF σ 42 3)), .int (Int32.ofInt 21), .ref 42]) rfl rfl rfl ?_
  refine ty_s_ci rfl rfl rfl rfl rfl rfl (mi_cal_v2 (np := 4) (args := [.ref 42, .int (Int32.ofInt 21), .int (Int32.ofInt (mi_sF σ 42 3)), .int (Int32.ofInt 0), .int (Int32.ofInt (mi_sF σ 42 3))]) (rest := []) rfl rfl rfl rfl rfl (Nat.le_of_ble_eq_true rfl) rfl rfl (Nat.le_of_ble_eq_true rfl) (ty_rcS S (List.mem_of_getElem? (i := 18) rfl))) (Nat.le_of_ble_eq_true rfl) S (pr34_addExpression (σ := σ1) pw1 (by omega) (by omega) (by omega) (by omega)) ?_
  intro x hh σ2 S f P0
  obtain ⟨e1, P2⟩ := P0
  rw [e1]
  clear e1
  have A2 := ps34_tr pw.2.2.2.2 A1 P2
  have pw2 := ps34_pw A2 pw (by omega)
  have g2 := ps34_7 A2
  try simp only [List.length_append, List.length_cons, List.length_nil] at g2
  replace fr := mi_Fm_tr fr f
  exact ty_s_ret S fr rfl rfl rfl (mi_ret_i rfl) ⟨_, rfl, (by first | omega | (simp only [List.length_cons, List.length_append, List.length_nil]; omega)), ps34_eq A2 (by first | omega | (simp only [List.length_cons, List.length_append, List.length_nil]; omega)) (by first | rfl | simp only [g1.2.1, g2.2.1, List.nil_append, List.append_nil, List.append_assoc, List.cons_append, Int.add_zero, Int.zero_add, Int.add_assoc, Int.reduceAdd])⟩
theorem pr34_atom_name {X : mi_X} {d : Nat} {dd : Int}   : ES34 X (d + 5) mi_M61 dd [13] (fun p s => [(21, p, 0)]) (fun p s => s) := by
  intro σ kx pw T hlen hkx hfe hroom h S
  have fr := mi_Fm_rf h
  have A0 := ps34_rf (σ := σ)
  have pw0 := pw
  obtain ⟨q1, q2, q3, q4, q5⟩ := pw0
  have fkx : 0 ≤ kx ∧ kx ≤ 59 ∧ kx ≠ 42 ∧ kx ≠ 43 ∧ kx ≠ 45 := by unfold fe at hfe; omega
  try simp only [List.length_cons, List.length_append, List.length_nil] at hlen
  try simp only [List.length_cons, List.length_append, List.length_nil] at hroom
  obtain ⟨t0, T1⟩ := tq_cons T
  refine mi_wp_p (pc' := 1) (st' := [.ref 42]) rfl rfl rfl ?_
  refine ty_s_gf (x := mi_sF σ 42 3) S rfl rfl rfl (List.mem_of_getElem? (i := 18) rfl) rfl ?_
  refine mi_wp_p (pc' := 5) (l' := [(2, .int (Int32.ofInt (mi_sF σ 42 3))), (0, .ref 42), (1, .int (Int32.ofInt dd))]) (st' := []) rfl rfl rfl ?_
  refine mi_wp_p (pc' := 6) (st' := [.ref 42]) rfl rfl rfl ?_
  refine ty_s_ci rfl rfl rfl rfl rfl rfl (mi_cal_v2 (np := 0) (args := [.ref 42]) (rest := []) rfl rfl rfl rfl rfl (Nat.le_of_ble_eq_true rfl) rfl rfl (Nat.le_of_ble_eq_true rfl) (ty_rcS S (List.mem_of_getElem? (i := 18) rfl))) (Nat.le_of_ble_eq_true rfl) S (pr34_kind (σ := σ) pw.1 pw.2.2.1 (by omega) pw.2.2.2.1 (ps34_k A0 t0 (by first | omega | (simp only [List.length_cons, List.length_append, List.length_nil]; omega)))) ?_
  intro x hh σu S f P
  obtain ⟨e1, e2⟩ := P
  rw [e2] at S
  rw [e1]
  clear e1 e2
  replace fr := mi_Fm_tr fr f
  refine mi_wp_p (pc' := 76) (l' := [(2, .int (Int32.ofInt (mi_sF σ 42 3))), (0, .ref 42), (1, .int (Int32.ofInt dd))]) (st' := []) rfl rfl rfl ?_
  refine mi_wp_p (pc' := 77) (st' := [.ref 42]) rfl rfl rfl ?_
  refine mi_s_k (pc' := 79) (e := 21) rfl rfl rfl (by decide +kernel) ?_
  refine mi_wp_p (pc' := 80) (st' := [.int (Int32.ofInt (mi_sF σ 42 3)), .int (Int32.ofInt 21), .ref 42]) rfl rfl rfl ?_
  refine ty_s_ci rfl rfl rfl rfl rfl rfl (mi_cal_v2 (np := 2) (args := [.ref 42, .int (Int32.ofInt 21), .int (Int32.ofInt (mi_sF σ 42 3))]) (rest := []) rfl rfl rfl rfl rfl (Nat.le_of_ble_eq_true rfl) rfl rfl (Nat.le_of_ble_eq_true rfl) (ty_rcS S (List.mem_of_getElem? (i := 18) rfl))) (Nat.le_of_ble_eq_true rfl) S (pr34_single (σ := σ) pw (by omega) (by omega) (by rw [← t0, Int.add_zero])) ?_
  intro x hh σ1 S f P0
  obtain ⟨e1, P1⟩ := P0
  rw [e1]
  clear e1
  have A1 := ps34_tr pw.2.2.2.2 A0 P1
  have pw1 := ps34_pw A1 pw (by omega)
  have g1 := ps34_7 A1
  try simp only [List.length_append, List.length_cons, List.length_nil] at g1
  replace fr := mi_Fm_tr fr f
  exact ty_s_ret S fr rfl rfl rfl (mi_ret_i rfl) ⟨_, rfl, (by first | rfl | (simp only [Int.add_zero]; done) | (dsimp only; omega) | (dsimp only; simp only [List.length_cons, List.length_append, List.length_nil]; omega)), ps34_eq A1 (by first | omega | (simp only [List.length_cons, List.length_append, List.length_nil]; omega)) (by first | rfl | simp only [g1.2.1, List.nil_append, List.append_nil, List.append_assoc, List.cons_append, Int.add_zero, Int.zero_add, Int.add_assoc, Int.reduceAdd])⟩
theorem pr34_call {X : mi_X} {d : Nat} {dd : Int} {ts : List Int} {l : Int → Int → List (Int × Int × Int)} {r : Int → Int → Int} (hA : ES34 X (d + 5) mi_M61 dd ts l r) : ES34 X (d + 6) mi_M63 dd ts (fun p s => l p s) (fun p s => r p s) := by
  intro σ kx pw T hlen hkx hfe hroom h S
  have fr := mi_Fm_rf h
  have A0 := ps34_rf (σ := σ)
  have pw0 := pw
  obtain ⟨q1, q2, q3, q4, q5⟩ := pw0
  have fkx : 0 ≤ kx ∧ kx ≤ 59 ∧ kx ≠ 42 ∧ kx ≠ 43 ∧ kx ≠ 45 := by unfold fe at hfe; omega
  try simp only [List.length_cons, List.length_append, List.length_nil] at hlen
  try simp only [List.length_cons, List.length_append, List.length_nil] at hroom
  have T0 := T
  refine mi_wp_p (pc' := 1) (st' := [.ref 42]) rfl rfl rfl ?_
  refine ty_s_gf (x := mi_sF σ 42 3) S rfl rfl rfl (List.mem_of_getElem? (i := 18) rfl) rfl ?_
  refine mi_wp_p (pc' := 5) (l' := [(2, .int (Int32.ofInt (mi_sF σ 42 3))), (0, .ref 42), (1, .int (Int32.ofInt dd))]) (st' := []) rfl rfl rfl ?_
  refine mi_wp_p (pc' := 6) (st' := [.ref 42]) rfl rfl rfl ?_
  refine mi_wp_p (pc' := 7) (st' := [.int (Int32.ofInt dd), .ref 42]) rfl rfl rfl ?_
  have ep1 : mi_sF σ 42 3 = mi_sF σ 42 3 := by omega
  have es1 : mi_sF σ 34 7 = mi_sF σ 34 7 := (by first | omega | (simp only [List.length_cons, List.length_append, List.length_nil]; omega))
  have Tk1 := tq_ps34 (p' := mi_sF σ 42 3) A0 T0 (by omega)
  have hn1 : mi_sA σ 5 (mi_sF σ 42 3 + (((ts).length : Int))) = kx := ps34_k2 A0 hkx (by first | omega | (simp only [List.length_cons, List.length_append, List.length_nil]; omega))
  have hr1 : mi_sF σ 34 7 + (l (mi_sF σ 42 3) (mi_sF σ 34 7)).length ≤ 1000 := by
    try rw [ep1, es1]
    omega
  refine ty_s_ci rfl rfl rfl rfl rfl rfl (mi_cal_v2 (np := 1) (args := [.ref 42, .int (Int32.ofInt dd)]) (rest := []) rfl rfl rfl rfl rfl (Nat.le_of_ble_eq_true rfl) rfl rfl (Nat.le_of_ble_eq_true rfl) (ty_rcS S (List.mem_of_getElem? (i := 18) rfl))) (Nat.le_of_ble_eq_true rfl) S (hA σ kx pw Tk1 (by first | omega | (simp only [List.length_cons, List.length_append, List.length_nil]; omega)) hn1 hfe hr1) ?_
  intro x1 hh σ1 S f P0
  obtain ⟨e1, P1⟩ := P0
  try rw [ep1, es1] at P1 e1
  rw [e1]
  clear e1
  have A1 := ps34_tr pw.2.2.2.2 A0 P1
  have pw1 := ps34_pw A1 pw (by omega)
  have g1 := ps34_7 A1
  try simp only [List.length_append, List.length_cons, List.length_nil] at g1
  replace fr := mi_Fm_tr fr f
  refine mi_wp_p (pc' := 11) (l' := [(3, .int (Int32.ofInt (r (mi_sF σ 42 3) (mi_sF σ 34 7)))), (2, .int (Int32.ofInt (mi_sF σ 42 3))), (0, .ref 42), (1, .int (Int32.ofInt dd))]) (st' := []) rfl rfl rfl ?_
  refine mi_wp_p (pc' := 12) (st' := [.int (Int32.ofInt 0)]) rfl rfl rfl ?_
  refine mi_wp_p (pc' := 14) (l' := [(4, .int (Int32.ofInt 0)), (3, .int (Int32.ofInt (r (mi_sF σ 42 3) (mi_sF σ 34 7)))), (2, .int (Int32.ofInt (mi_sF σ 42 3))), (0, .ref 42), (1, .int (Int32.ofInt dd))]) (st' := []) rfl rfl rfl ?_
  refine mi_wp_p (pc' := 16) (st' := [.int (Int32.ofInt 0)]) rfl rfl rfl ?_
  refine mi_s_k (pc' := 19) (e := 300) rfl rfl rfl (by decide +kernel) ?_
  refine mi_s_if2 (t := 53) rfl rfl rfl (by unfold mi_R; omega) (by unfold mi_R; omega) (fun hc_ => absurd (show 300 ≤ (0 : Int) from hc_) (by omega)) (fun _ => ?_)
  refine mi_wp_p (pc' := 23) (st' := [.ref 42]) rfl rfl rfl ?_
  refine ty_s_ci rfl rfl rfl rfl rfl rfl (mi_cal_v2 (np := 0) (args := [.ref 42]) (rest := []) rfl rfl rfl rfl rfl (Nat.le_of_ble_eq_true rfl) rfl rfl (Nat.le_of_ble_eq_true rfl) (ty_rcS S (List.mem_of_getElem? (i := 18) rfl))) (Nat.le_of_ble_eq_true rfl) S (pr34_atoms0 (σ := σ1) pw1.1 pw1.2.2.1 (by omega) pw1.2.2.2.1 (ps34_k A1 hkx (by first | omega | (simp only [List.length_cons, List.length_append, List.length_nil]; omega))) hfe (by omega)) ?_
  intro x hh σu S f P
  obtain ⟨e1, e2⟩ := P
  rw [e2] at S
  rw [e1]
  clear e1 e2
  replace fr := mi_Fm_tr fr f
  refine mi_s_if1 (t := 53) rfl rfl rfl (by unfold mi_R; omega) (fun _ => ?_) (fun hc_ => absurd (show (0 : Int) = 0 by omega) hc_)
  refine mi_wp_p (pc' := 54) (st' := [.int (Int32.ofInt (r (mi_sF σ 42 3) (mi_sF σ 34 7)))]) rfl rfl rfl ?_
  exact ty_s_ret S fr rfl rfl rfl (mi_ret_i rfl) ⟨_, rfl, (by first | rfl | (simp only [Int.add_zero]; done) | (dsimp only; omega) | (dsimp only; simp only [List.length_cons, List.length_append, List.length_nil]; omega)), ps34_eq A1 (by first | omega | (simp only [List.length_cons, List.length_append, List.length_nil]; omega)) (by first | rfl | simp only [g1.2.1, List.nil_append, List.append_nil, List.append_assoc, List.cons_append, Int.add_zero, Int.zero_add, Int.add_assoc, Int.reduceAdd])⟩
theorem pr34_product {X : mi_X} {d : Nat} {dd : Int} {ts : List Int} {l : Int → Int → List (Int × Int × Int)} {r : Int → Int → Int} (hA : ES34 X (d + 6) mi_M63 dd ts l r) : ES34 X (d + 7) mi_M74 dd ts (fun p s => l p s) (fun p s => r p s) := by
  intro σ kx pw T hlen hkx hfe hroom h S
  have fr := mi_Fm_rf h
  have A0 := ps34_rf (σ := σ)
  have pw0 := pw
  obtain ⟨q1, q2, q3, q4, q5⟩ := pw0
  have fkx : 0 ≤ kx ∧ kx ≤ 59 ∧ kx ≠ 42 ∧ kx ≠ 43 ∧ kx ≠ 45 := by unfold fe at hfe; omega
  try simp only [List.length_cons, List.length_append, List.length_nil] at hlen
  try simp only [List.length_cons, List.length_append, List.length_nil] at hroom
  have T0 := T
  refine mi_wp_p (pc' := 1) (st' := [.ref 42]) rfl rfl rfl ?_
  refine ty_s_gf (x := mi_sF σ 42 3) S rfl rfl rfl (List.mem_of_getElem? (i := 18) rfl) rfl ?_
  refine mi_wp_p (pc' := 5) (l' := [(2, .int (Int32.ofInt (mi_sF σ 42 3))), (0, .ref 42), (1, .int (Int32.ofInt dd))]) (st' := []) rfl rfl rfl ?_
  refine mi_wp_p (pc' := 6) (st' := [.ref 42]) rfl rfl rfl ?_
  refine mi_wp_p (pc' := 7) (st' := [.int (Int32.ofInt dd), .ref 42]) rfl rfl rfl ?_
  have ep1 : mi_sF σ 42 3 = mi_sF σ 42 3 := by omega
  have es1 : mi_sF σ 34 7 = mi_sF σ 34 7 := (by first | omega | (simp only [List.length_cons, List.length_append, List.length_nil]; omega))
  have Tk1 := tq_ps34 (p' := mi_sF σ 42 3) A0 T0 (by omega)
  have hn1 : mi_sA σ 5 (mi_sF σ 42 3 + (((ts).length : Int))) = kx := ps34_k2 A0 hkx (by first | omega | (simp only [List.length_cons, List.length_append, List.length_nil]; omega))
  have hr1 : mi_sF σ 34 7 + (l (mi_sF σ 42 3) (mi_sF σ 34 7)).length ≤ 1000 := by
    try rw [ep1, es1]
    omega
  refine ty_s_ci rfl rfl rfl rfl rfl rfl (mi_cal_v2 (np := 1) (args := [.ref 42, .int (Int32.ofInt dd)]) (rest := []) rfl rfl rfl rfl rfl (Nat.le_of_ble_eq_true rfl) rfl rfl (Nat.le_of_ble_eq_true rfl) (ty_rcS S (List.mem_of_getElem? (i := 18) rfl))) (Nat.le_of_ble_eq_true rfl) S (hA σ kx pw Tk1 (by first | omega | (simp only [List.length_cons, List.length_append, List.length_nil]; omega)) hn1 hfe hr1) ?_
  intro x1 hh σ1 S f P0
  obtain ⟨e1, P1⟩ := P0
  try rw [ep1, es1] at P1 e1
  rw [e1]
  clear e1
  have A1 := ps34_tr pw.2.2.2.2 A0 P1
  have pw1 := ps34_pw A1 pw (by omega)
  have g1 := ps34_7 A1
  try simp only [List.length_append, List.length_cons, List.length_nil] at g1
  replace fr := mi_Fm_tr fr f
  refine mi_wp_p (pc' := 11) (l' := [(3, .int (Int32.ofInt (r (mi_sF σ 42 3) (mi_sF σ 34 7)))), (2, .int (Int32.ofInt (mi_sF σ 42 3))), (0, .ref 42), (1, .int (Int32.ofInt dd))]) (st' := []) rfl rfl rfl ?_
  refine mi_wp_p (pc' := 12) (st' := [.int (Int32.ofInt 0)]) rfl rfl rfl ?_
  refine mi_wp_p (pc' := 14) (l' := [(4, .int (Int32.ofInt 0)), (3, .int (Int32.ofInt (r (mi_sF σ 42 3) (mi_sF σ 34 7)))), (2, .int (Int32.ofInt (mi_sF σ 42 3))), (0, .ref 42), (1, .int (Int32.ofInt dd))]) (st' := []) rfl rfl rfl ?_
  refine mi_wp_p (pc' := 16) (st' := [.int (Int32.ofInt 0)]) rfl rfl rfl ?_
  refine mi_s_k (pc' := 19) (e := 300) rfl rfl rfl (by decide +kernel) ?_
  refine mi_s_if2 (t := 71) rfl rfl rfl (by unfold mi_R; omega) (by unfold mi_R; omega) (fun hc_ => absurd (show 300 ≤ (0 : Int) from hc_) (by omega)) (fun _ => ?_)
  refine mi_wp_p (pc' := 23) (st' := [.ref 42]) rfl rfl rfl ?_
  refine ty_s_ci rfl rfl rfl rfl rfl rfl (mi_cal_v2 (np := 0) (args := [.ref 42]) (rest := []) rfl rfl rfl rfl rfl (Nat.le_of_ble_eq_true rfl) rfl rfl (Nat.le_of_ble_eq_true rfl) (ty_rcS S (List.mem_of_getElem? (i := 18) rfl))) (Nat.le_of_ble_eq_true rfl) S (pr34_kind (σ := σ1) pw1.1 pw1.2.2.1 (by omega) pw1.2.2.2.1 (ps34_k A1 hkx (by first | omega | (simp only [List.length_cons, List.length_append, List.length_nil]; omega)))) ?_
  intro x hh σu S f P
  obtain ⟨e1, e2⟩ := P
  rw [e2] at S
  rw [e1]
  clear e1 e2
  replace fr := mi_Fm_tr fr f
  refine mi_s_k (pc' := 28) (e := 42) rfl rfl rfl (by decide +kernel) ?_
  refine mi_s_if2 (t := 71) rfl rfl rfl (by unfold mi_R; omega) (by unfold mi_R; omega) (fun _ => ?_) (fun hc_ => absurd (show kx ≠ 42 by omega) hc_)
  refine mi_wp_p (pc' := 72) (st' := [.int (Int32.ofInt (r (mi_sF σ 42 3) (mi_sF σ 34 7)))]) rfl rfl rfl ?_
  exact ty_s_ret S fr rfl rfl rfl (mi_ret_i rfl) ⟨_, rfl, (by first | rfl | (simp only [Int.add_zero]; done) | (dsimp only; omega) | (dsimp only; simp only [List.length_cons, List.length_append, List.length_nil]; omega)), ps34_eq A1 (by first | omega | (simp only [List.length_cons, List.length_append, List.length_nil]; omega)) (by first | rfl | simp only [g1.2.1, List.nil_append, List.append_nil, List.append_assoc, List.cons_append, Int.add_zero, Int.zero_add, Int.add_assoc, Int.reduceAdd])⟩
theorem pr34_sum {X : mi_X} {d : Nat} {dd : Int} {ts : List Int} {l : Int → Int → List (Int × Int × Int)} {r : Int → Int → Int} (hA : ES34 X (d + 7) mi_M74 dd ts l r) : ES34 X (d + 8) mi_M82 dd ts (fun p s => l p s) (fun p s => r p s) := by
  intro σ kx pw T hlen hkx hfe hroom h S
  have fr := mi_Fm_rf h
  have A0 := ps34_rf (σ := σ)
  have pw0 := pw
  obtain ⟨q1, q2, q3, q4, q5⟩ := pw0
  have fkx : 0 ≤ kx ∧ kx ≤ 59 ∧ kx ≠ 42 ∧ kx ≠ 43 ∧ kx ≠ 45 := by unfold fe at hfe; omega
  try simp only [List.length_cons, List.length_append, List.length_nil] at hlen
  try simp only [List.length_cons, List.length_append, List.length_nil] at hroom
  have T0 := T
  refine mi_wp_p (pc' := 1) (st' := [.ref 42]) rfl rfl rfl ?_
  refine ty_s_gf (x := mi_sF σ 42 3) S rfl rfl rfl (List.mem_of_getElem? (i := 18) rfl) rfl ?_
  refine mi_wp_p (pc' := 5) (l' := [(2, .int (Int32.ofInt (mi_sF σ 42 3))), (0, .ref 42), (1, .int (Int32.ofInt dd))]) (st' := []) rfl rfl rfl ?_
  refine mi_wp_p (pc' := 6) (st' := [.ref 42]) rfl rfl rfl ?_
  refine mi_wp_p (pc' := 7) (st' := [.int (Int32.ofInt dd), .ref 42]) rfl rfl rfl ?_
  have ep1 : mi_sF σ 42 3 = mi_sF σ 42 3 := by omega
  have es1 : mi_sF σ 34 7 = mi_sF σ 34 7 := (by first | omega | (simp only [List.length_cons, List.length_append, List.length_nil]; omega))
  have Tk1 := tq_ps34 (p' := mi_sF σ 42 3) A0 T0 (by omega)
  have hn1 : mi_sA σ 5 (mi_sF σ 42 3 + (((ts).length : Int))) = kx := ps34_k2 A0 hkx (by first | omega | (simp only [List.length_cons, List.length_append, List.length_nil]; omega))
  have hr1 : mi_sF σ 34 7 + (l (mi_sF σ 42 3) (mi_sF σ 34 7)).length ≤ 1000 := by
    try rw [ep1, es1]
    omega
  refine ty_s_ci rfl rfl rfl rfl rfl rfl (mi_cal_v2 (np := 1) (args := [.ref 42, .int (Int32.ofInt dd)]) (rest := []) rfl rfl rfl rfl rfl (Nat.le_of_ble_eq_true rfl) rfl rfl (Nat.le_of_ble_eq_true rfl) (ty_rcS S (List.mem_of_getElem? (i := 18) rfl))) (Nat.le_of_ble_eq_true rfl) S (hA σ kx pw Tk1 (by first | omega | (simp only [List.length_cons, List.length_append, List.length_nil]; omega)) hn1 hfe hr1) ?_
  intro x1 hh σ1 S f P0
  obtain ⟨e1, P1⟩ := P0
  try rw [ep1, es1] at P1 e1
  rw [e1]
  clear e1
  have A1 := ps34_tr pw.2.2.2.2 A0 P1
  have pw1 := ps34_pw A1 pw (by omega)
  have g1 := ps34_7 A1
  try simp only [List.length_append, List.length_cons, List.length_nil] at g1
  replace fr := mi_Fm_tr fr f
  refine mi_wp_p (pc' := 11) (l' := [(3, .int (Int32.ofInt (r (mi_sF σ 42 3) (mi_sF σ 34 7)))), (2, .int (Int32.ofInt (mi_sF σ 42 3))), (0, .ref 42), (1, .int (Int32.ofInt dd))]) (st' := []) rfl rfl rfl ?_
  refine mi_wp_p (pc' := 12) (st' := [.int (Int32.ofInt 0)]) rfl rfl rfl ?_
  refine mi_wp_p (pc' := 14) (l' := [(4, .int (Int32.ofInt 0)), (3, .int (Int32.ofInt (r (mi_sF σ 42 3) (mi_sF σ 34 7)))), (2, .int (Int32.ofInt (mi_sF σ 42 3))), (0, .ref 42), (1, .int (Int32.ofInt dd))]) (st' := []) rfl rfl rfl ?_
  refine mi_wp_p (pc' := 16) (st' := [.int (Int32.ofInt 0)]) rfl rfl rfl ?_
  refine mi_s_k (pc' := 19) (e := 300) rfl rfl rfl (by decide +kernel) ?_
  refine mi_s_if2 (t := 82) rfl rfl rfl (by unfold mi_R; omega) (by unfold mi_R; omega) (fun hc_ => absurd (show 300 ≤ (0 : Int) from hc_) (by omega)) (fun _ => ?_)
  refine mi_wp_p (pc' := 23) (st' := [.ref 42]) rfl rfl rfl ?_
  refine ty_s_ci rfl rfl rfl rfl rfl rfl (mi_cal_v2 (np := 0) (args := [.ref 42]) (rest := []) rfl rfl rfl rfl rfl (Nat.le_of_ble_eq_true rfl) rfl rfl (Nat.le_of_ble_eq_true rfl) (ty_rcS S (List.mem_of_getElem? (i := 18) rfl))) (Nat.le_of_ble_eq_true rfl) S (pr34_kind (σ := σ1) pw1.1 pw1.2.2.1 (by omega) pw1.2.2.2.1 (ps34_k A1 hkx (by first | omega | (simp only [List.length_cons, List.length_append, List.length_nil]; omega)))) ?_
  intro x hh σu S f P
  obtain ⟨e1, e2⟩ := P
  rw [e2] at S
  rw [e1]
  clear e1 e2
  replace fr := mi_Fm_tr fr f
  refine mi_s_k (pc' := 28) (e := 43) rfl rfl rfl (by decide +kernel) ?_
  refine mi_s_if2 (t := 40) rfl rfl rfl (by unfold mi_R; omega) (by unfold mi_R; omega) (fun hc_ => absurd (show kx = 43 from hc_) (by omega)) (fun _ => ?_)
  refine mi_wp_p (pc' := 32) (st' := [.ref 42]) rfl rfl rfl ?_
  refine ty_s_ci rfl rfl rfl rfl rfl rfl (mi_cal_v2 (np := 0) (args := [.ref 42]) (rest := []) rfl rfl rfl rfl rfl (Nat.le_of_ble_eq_true rfl) rfl rfl (Nat.le_of_ble_eq_true rfl) (ty_rcS S (List.mem_of_getElem? (i := 18) rfl))) (Nat.le_of_ble_eq_true rfl) S (pr34_kind (σ := σ1) pw1.1 pw1.2.2.1 (by omega) pw1.2.2.2.1 (ps34_k A1 hkx (by first | omega | (simp only [List.length_cons, List.length_append, List.length_nil]; omega)))) ?_
  intro x hh σu S f P
  obtain ⟨e1, e2⟩ := P
  rw [e2] at S
  rw [e1]
  clear e1 e2
  replace fr := mi_Fm_tr fr f
  refine mi_s_k (pc' := 37) (e := 45) rfl rfl rfl (by decide +kernel) ?_
  refine mi_s_if2 (t := 82) rfl rfl rfl (by unfold mi_R; omega) (by unfold mi_R; omega) (fun _ => ?_) (fun hc_ => absurd (show kx ≠ 45 by omega) hc_)
  refine mi_wp_p (pc' := 83) (st' := [.int (Int32.ofInt (r (mi_sF σ 42 3) (mi_sF σ 34 7)))]) rfl rfl rfl ?_
  exact ty_s_ret S fr rfl rfl rfl (mi_ret_i rfl) ⟨_, rfl, (by first | rfl | (simp only [Int.add_zero]; done) | (dsimp only; omega) | (dsimp only; simp only [List.length_cons, List.length_append, List.length_nil]; omega)), ps34_eq A1 (by first | omega | (simp only [List.length_cons, List.length_append, List.length_nil]; omega)) (by first | rfl | simp only [g1.2.1, List.nil_append, List.append_nil, List.append_assoc, List.cons_append, Int.add_zero, Int.zero_add, Int.add_assoc, Int.reduceAdd])⟩
theorem pr34_relation {X : mi_X} {d : Nat} {dd : Int} {ts : List Int} {l : Int → Int → List (Int × Int × Int)} {r : Int → Int → Int} (hA : ES34 X (d + 8) mi_M82 dd ts l r) : ES34 X (d + 9) mi_M77 dd ts (fun p s => l p s) (fun p s => r p s) := by
  intro σ kx pw T hlen hkx hfe hroom h S
  have fr := mi_Fm_rf h
  have A0 := ps34_rf (σ := σ)
  have pw0 := pw
  obtain ⟨q1, q2, q3, q4, q5⟩ := pw0
  have fkx : 0 ≤ kx ∧ kx ≤ 59 ∧ kx ≠ 42 ∧ kx ≠ 43 ∧ kx ≠ 45 := by unfold fe at hfe; omega
  try simp only [List.length_cons, List.length_append, List.length_nil] at hlen
  try simp only [List.length_cons, List.length_append, List.length_nil] at hroom
  have T0 := T
  refine mi_wp_p (pc' := 1) (st' := [.ref 42]) rfl rfl rfl ?_
  refine ty_s_gf (x := mi_sF σ 42 3) S rfl rfl rfl (List.mem_of_getElem? (i := 18) rfl) rfl ?_
  refine mi_wp_p (pc' := 5) (l' := [(2, .int (Int32.ofInt (mi_sF σ 42 3))), (0, .ref 42), (1, .int (Int32.ofInt dd))]) (st' := []) rfl rfl rfl ?_
  refine mi_wp_p (pc' := 6) (st' := [.ref 42]) rfl rfl rfl ?_
  refine mi_wp_p (pc' := 7) (st' := [.int (Int32.ofInt dd), .ref 42]) rfl rfl rfl ?_
  have ep1 : mi_sF σ 42 3 = mi_sF σ 42 3 := by omega
  have es1 : mi_sF σ 34 7 = mi_sF σ 34 7 := (by first | omega | (simp only [List.length_cons, List.length_append, List.length_nil]; omega))
  have Tk1 := tq_ps34 (p' := mi_sF σ 42 3) A0 T0 (by omega)
  have hn1 : mi_sA σ 5 (mi_sF σ 42 3 + (((ts).length : Int))) = kx := ps34_k2 A0 hkx (by first | omega | (simp only [List.length_cons, List.length_append, List.length_nil]; omega))
  have hr1 : mi_sF σ 34 7 + (l (mi_sF σ 42 3) (mi_sF σ 34 7)).length ≤ 1000 := by
    try rw [ep1, es1]
    omega
  refine ty_s_ci rfl rfl rfl rfl rfl rfl (mi_cal_v2 (np := 1) (args := [.ref 42, .int (Int32.ofInt dd)]) (rest := []) rfl rfl rfl rfl rfl (Nat.le_of_ble_eq_true rfl) rfl rfl (Nat.le_of_ble_eq_true rfl) (ty_rcS S (List.mem_of_getElem? (i := 18) rfl))) (Nat.le_of_ble_eq_true rfl) S (hA σ kx pw Tk1 (by first | omega | (simp only [List.length_cons, List.length_append, List.length_nil]; omega)) hn1 hfe hr1) ?_
  intro x1 hh σ1 S f P0
  obtain ⟨e1, P1⟩ := P0
  try rw [ep1, es1] at P1 e1
  rw [e1]
  clear e1
  have A1 := ps34_tr pw.2.2.2.2 A0 P1
  have pw1 := ps34_pw A1 pw (by omega)
  have g1 := ps34_7 A1
  try simp only [List.length_append, List.length_cons, List.length_nil] at g1
  replace fr := mi_Fm_tr fr f
  refine mi_wp_p (pc' := 11) (l' := [(3, .int (Int32.ofInt (r (mi_sF σ 42 3) (mi_sF σ 34 7)))), (2, .int (Int32.ofInt (mi_sF σ 42 3))), (0, .ref 42), (1, .int (Int32.ofInt dd))]) (st' := []) rfl rfl rfl ?_
  refine mi_wp_p (pc' := 12) (st' := [.ref 42]) rfl rfl rfl ?_
  refine ty_s_ci rfl rfl rfl rfl rfl rfl (mi_cal_v2 (np := 0) (args := [.ref 42]) (rest := []) rfl rfl rfl rfl rfl (Nat.le_of_ble_eq_true rfl) rfl rfl (Nat.le_of_ble_eq_true rfl) (ty_rcS S (List.mem_of_getElem? (i := 18) rfl))) (Nat.le_of_ble_eq_true rfl) S (pr34_kind (σ := σ1) pw1.1 pw1.2.2.1 (by omega) pw1.2.2.2.1 (ps34_k A1 hkx (by first | omega | (simp only [List.length_cons, List.length_append, List.length_nil]; omega)))) ?_
  intro x hh σu S f P
  obtain ⟨e1, e2⟩ := P
  rw [e2] at S
  rw [e1]
  clear e1 e2
  replace fr := mi_Fm_tr fr f
  refine mi_s_k (pc' := 17) (e := 61) rfl rfl rfl (by decide +kernel) ?_
  refine mi_s_if2 (t := 44) rfl rfl rfl (by unfold mi_R; omega) (by unfold mi_R; omega) (fun _ => ?_) (fun hc_ => absurd (show kx ≠ 61 by omega) hc_)
  refine mi_wp_p (pc' := 45) (st' := [.ref 42]) rfl rfl rfl ?_
  refine ty_s_ci rfl rfl rfl rfl rfl rfl (mi_cal_v2 (np := 0) (args := [.ref 42]) (rest := []) rfl rfl rfl rfl rfl (Nat.le_of_ble_eq_true rfl) rfl rfl (Nat.le_of_ble_eq_true rfl) (ty_rcS S (List.mem_of_getElem? (i := 18) rfl))) (Nat.le_of_ble_eq_true rfl) S (pr34_kind (σ := σ1) pw1.1 pw1.2.2.1 (by omega) pw1.2.2.2.1 (ps34_k A1 hkx (by first | omega | (simp only [List.length_cons, List.length_append, List.length_nil]; omega)))) ?_
  intro x hh σu S f P
  obtain ⟨e1, e2⟩ := P
  rw [e2] at S
  rw [e1]
  clear e1 e2
  replace fr := mi_Fm_tr fr f
  refine mi_s_k (pc' := 50) (e := 60) rfl rfl rfl (by decide +kernel) ?_
  refine mi_s_if2 (t := 87) rfl rfl rfl (by unfold mi_R; omega) (by unfold mi_R; omega) (fun _ => ?_) (fun hc_ => absurd (show kx ≠ 60 by omega) hc_)
  refine mi_wp_p (pc' := 88) (st' := [.int (Int32.ofInt (r (mi_sF σ 42 3) (mi_sF σ 34 7)))]) rfl rfl rfl ?_
  exact ty_s_ret S fr rfl rfl rfl (mi_ret_i rfl) ⟨_, rfl, (by first | rfl | (simp only [Int.add_zero]; done) | (dsimp only; omega) | (dsimp only; simp only [List.length_cons, List.length_append, List.length_nil]; omega)), ps34_eq A1 (by first | omega | (simp only [List.length_cons, List.length_append, List.length_nil]; omega)) (by first | rfl | simp only [g1.2.1, List.nil_append, List.append_nil, List.append_assoc, List.cons_append, Int.add_zero, Int.zero_add, Int.add_assoc, Int.reduceAdd])⟩
theorem pr34_exprN {X : mi_X} {d : Nat} {dd : Int} {ts : List Int} {l : Int → Int → List (Int × Int × Int)} {r : Int → Int → Int} (hdd : 0 ≤ dd ∧ dd ≤ 12) (hA : ES34 X (d + 9) mi_M77 dd (13 :: ts) l r) : ES34 X (d + 10) mi_M65 dd (13 :: ts) (fun p s => l p s) (fun p s => r p s) := by
  intro σ kx pw T hlen hkx hfe hroom h S
  have fr := mi_Fm_rf h
  have A0 := ps34_rf (σ := σ)
  have pw0 := pw
  obtain ⟨q1, q2, q3, q4, q5⟩ := pw0
  have fkx : 0 ≤ kx ∧ kx ≤ 59 ∧ kx ≠ 42 ∧ kx ≠ 43 ∧ kx ≠ 45 := by unfold fe at hfe; omega
  try simp only [List.length_cons, List.length_append, List.length_nil] at hlen
  try simp only [List.length_cons, List.length_append, List.length_nil] at hroom
  obtain ⟨t0, -⟩ := tq_cons T
  have T0 := T
  refine mi_wp_p (pc' := 1) (st' := [.int (Int32.ofInt dd)]) rfl rfl rfl ?_
  refine mi_s_k (pc' := 3) (e := 12) rfl rfl rfl (by decide +kernel) ?_
  refine mi_s_if2 (t := 12) rfl rfl rfl (by unfold mi_R; omega) (by unfold mi_R; omega) (fun _ => ?_) (fun hc_ => absurd (show dd ≤ 12 by omega) hc_)
  refine mi_wp_p (pc' := 13) (st' := [.ref 42]) rfl rfl rfl ?_
  refine ty_s_ci rfl rfl rfl rfl rfl rfl (mi_cal_v2 (np := 0) (args := [.ref 42]) (rest := []) rfl rfl rfl rfl rfl (Nat.le_of_ble_eq_true rfl) rfl rfl (Nat.le_of_ble_eq_true rfl) (ty_rcS S (List.mem_of_getElem? (i := 18) rfl))) (Nat.le_of_ble_eq_true rfl) S (pr34_kind (σ := σ) pw.1 pw.2.2.1 (by omega) pw.2.2.2.1 (ps34_k A0 t0 (by first | omega | (simp only [List.length_cons, List.length_append, List.length_nil]; omega)))) ?_
  intro x hh σu S f P
  obtain ⟨e1, e2⟩ := P
  rw [e2] at S
  rw [e1]
  clear e1 e2
  replace fr := mi_Fm_tr fr f
  refine mi_wp_p (pc' := 84) (l' := [(0, .ref 42), (1, .int (Int32.ofInt dd))]) (st' := []) rfl rfl rfl ?_
  refine mi_wp_p (pc' := 85) (st' := [.ref 42]) rfl rfl rfl ?_
  refine mi_wp_p (pc' := 86) (st' := [.int (Int32.ofInt dd), .ref 42]) rfl rfl rfl ?_
  have ep1 : mi_sF σ 42 3 = mi_sF σ 42 3 := by omega
  have es1 : mi_sF σ 34 7 = mi_sF σ 34 7 := (by first | omega | (simp only [List.length_cons, List.length_append, List.length_nil]; omega))
  have Tk1 := tq_ps34 (p' := mi_sF σ 42 3) A0 T0 (by omega)
  have hn1 : mi_sA σ 5 (mi_sF σ 42 3 + (((13 :: ts).length : Int))) = kx := ps34_k2 A0 hkx (by first | omega | (simp only [List.length_cons, List.length_append, List.length_nil]; omega))
  have hr1 : mi_sF σ 34 7 + (l (mi_sF σ 42 3) (mi_sF σ 34 7)).length ≤ 1000 := by
    try rw [ep1, es1]
    omega
  refine ty_s_ci rfl rfl rfl rfl rfl rfl (mi_cal_v2 (np := 1) (args := [.ref 42, .int (Int32.ofInt dd)]) (rest := []) rfl rfl rfl rfl rfl (Nat.le_of_ble_eq_true rfl) rfl rfl (Nat.le_of_ble_eq_true rfl) (ty_rcS S (List.mem_of_getElem? (i := 18) rfl))) (Nat.le_of_ble_eq_true rfl) S (hA σ kx pw Tk1 (by first | omega | (simp only [List.length_cons, List.length_append, List.length_nil]; omega)) hn1 hfe hr1) ?_
  intro x1 hh σ1 S f P0
  obtain ⟨e1, P1⟩ := P0
  try rw [ep1, es1] at P1 e1
  rw [e1]
  clear e1
  have A1 := ps34_tr pw.2.2.2.2 A0 P1
  have pw1 := ps34_pw A1 pw (by omega)
  have g1 := ps34_7 A1
  try simp only [List.length_append, List.length_cons, List.length_nil] at g1
  replace fr := mi_Fm_tr fr f
  exact ty_s_ret S fr rfl rfl rfl (mi_ret_i rfl) ⟨_, rfl, (by first | rfl | (simp only [Int.add_zero]; done) | (dsimp only; omega) | (dsimp only; simp only [List.length_cons, List.length_append, List.length_nil]; omega)), ps34_eq A1 (by first | omega | (simp only [List.length_cons, List.length_append, List.length_nil]; omega)) (by first | rfl | simp only [g1.2.1, List.nil_append, List.append_nil, List.append_assoc, List.cons_append, Int.add_zero, Int.zero_add, Int.add_assoc, Int.reduceAdd])⟩
theorem pr34_exprP {X : mi_X} {d : Nat} {dd : Int} {ts : List Int} {l : Int → Int → List (Int × Int × Int)} {r : Int → Int → Int} (hdd : 0 ≤ dd ∧ dd ≤ 12) (hA : ES34 X (d + 9) mi_M77 dd (40 :: ts) l r) : ES34 X (d + 10) mi_M65 dd (40 :: ts) (fun p s => l p s) (fun p s => r p s) := by
  intro σ kx pw T hlen hkx hfe hroom h S
  have fr := mi_Fm_rf h
  have A0 := ps34_rf (σ := σ)
  have pw0 := pw
  obtain ⟨q1, q2, q3, q4, q5⟩ := pw0
  have fkx : 0 ≤ kx ∧ kx ≤ 59 ∧ kx ≠ 42 ∧ kx ≠ 43 ∧ kx ≠ 45 := by unfold fe at hfe; omega
  try simp only [List.length_cons, List.length_append, List.length_nil] at hlen
  try simp only [List.length_cons, List.length_append, List.length_nil] at hroom
  obtain ⟨t0, -⟩ := tq_cons T
  have T0 := T
  refine mi_wp_p (pc' := 1) (st' := [.int (Int32.ofInt dd)]) rfl rfl rfl ?_
  refine mi_s_k (pc' := 3) (e := 12) rfl rfl rfl (by decide +kernel) ?_
  refine mi_s_if2 (t := 12) rfl rfl rfl (by unfold mi_R; omega) (by unfold mi_R; omega) (fun _ => ?_) (fun hc_ => absurd (show dd ≤ 12 by omega) hc_)
  refine mi_wp_p (pc' := 13) (st' := [.ref 42]) rfl rfl rfl ?_
  refine ty_s_ci rfl rfl rfl rfl rfl rfl (mi_cal_v2 (np := 0) (args := [.ref 42]) (rest := []) rfl rfl rfl rfl rfl (Nat.le_of_ble_eq_true rfl) rfl rfl (Nat.le_of_ble_eq_true rfl) (ty_rcS S (List.mem_of_getElem? (i := 18) rfl))) (Nat.le_of_ble_eq_true rfl) S (pr34_kind (σ := σ) pw.1 pw.2.2.1 (by omega) pw.2.2.2.1 (ps34_k A0 t0 (by first | omega | (simp only [List.length_cons, List.length_append, List.length_nil]; omega)))) ?_
  intro x hh σu S f P
  obtain ⟨e1, e2⟩ := P
  rw [e2] at S
  rw [e1]
  clear e1 e2
  replace fr := mi_Fm_tr fr f
  refine mi_wp_p (pc' := 84) (l' := [(0, .ref 42), (1, .int (Int32.ofInt dd))]) (st' := []) rfl rfl rfl ?_
  refine mi_wp_p (pc' := 85) (st' := [.ref 42]) rfl rfl rfl ?_
  refine mi_wp_p (pc' := 86) (st' := [.int (Int32.ofInt dd), .ref 42]) rfl rfl rfl ?_
  have ep1 : mi_sF σ 42 3 = mi_sF σ 42 3 := by omega
  have es1 : mi_sF σ 34 7 = mi_sF σ 34 7 := (by first | omega | (simp only [List.length_cons, List.length_append, List.length_nil]; omega))
  have Tk1 := tq_ps34 (p' := mi_sF σ 42 3) A0 T0 (by omega)
  have hn1 : mi_sA σ 5 (mi_sF σ 42 3 + (((40 :: ts).length : Int))) = kx := ps34_k2 A0 hkx (by first | omega | (simp only [List.length_cons, List.length_append, List.length_nil]; omega))
  have hr1 : mi_sF σ 34 7 + (l (mi_sF σ 42 3) (mi_sF σ 34 7)).length ≤ 1000 := by
    try rw [ep1, es1]
    omega
  refine ty_s_ci rfl rfl rfl rfl rfl rfl (mi_cal_v2 (np := 1) (args := [.ref 42, .int (Int32.ofInt dd)]) (rest := []) rfl rfl rfl rfl rfl (Nat.le_of_ble_eq_true rfl) rfl rfl (Nat.le_of_ble_eq_true rfl) (ty_rcS S (List.mem_of_getElem? (i := 18) rfl))) (Nat.le_of_ble_eq_true rfl) S (hA σ kx pw Tk1 (by first | omega | (simp only [List.length_cons, List.length_append, List.length_nil]; omega)) hn1 hfe hr1) ?_
  intro x1 hh σ1 S f P0
  obtain ⟨e1, P1⟩ := P0
  try rw [ep1, es1] at P1 e1
  rw [e1]
  clear e1
  have A1 := ps34_tr pw.2.2.2.2 A0 P1
  have pw1 := ps34_pw A1 pw (by omega)
  have g1 := ps34_7 A1
  try simp only [List.length_append, List.length_cons, List.length_nil] at g1
  replace fr := mi_Fm_tr fr f
  exact ty_s_ret S fr rfl rfl rfl (mi_ret_i rfl) ⟨_, rfl, (by first | rfl | (simp only [Int.add_zero]; done) | (dsimp only; omega) | (dsimp only; simp only [List.length_cons, List.length_append, List.length_nil]; omega)), ps34_eq A1 (by first | omega | (simp only [List.length_cons, List.length_append, List.length_nil]; omega)) (by first | rfl | simp only [g1.2.1, List.nil_append, List.append_nil, List.append_assoc, List.cons_append, Int.add_zero, Int.zero_add, Int.add_assoc, Int.reduceAdd])⟩
theorem pr34_name {X : mi_X} {d : Nat} {dd : Int} (hdd : 0 ≤ dd ∧ dd ≤ 12) : ES34 X (d + 10) mi_M65 dd [13] (fun p s => [(21, p, 0)]) (fun p s => s) := pr34_exprN hdd (pr34_relation (pr34_sum (pr34_product (pr34_call pr34_atom_name))))
