/-! ===== the parser on forms (printed by wip/gen/p_form.py) ===== -/
/-- the kinds of tokens from p on -/
def tq (σ : mi_Sg) (p : Int) (ts : List Int) : Prop := ∀ (i : Nat) (k : Int), ts[i]? = some k → mi_sA σ 5 (p + i) = k
theorem tq_app {σ : mi_Sg} {p : Int} {ts ts' : List Int} (h : tq σ p (ts ++ ts')) : tq σ p ts ∧ tq σ (p + ts.length) ts' := by
  refine ⟨fun i k hk => h i k ?_, fun i k hk => ?_⟩
  · have hi : i < ts.length := by
      refine Decidable.byContradiction (fun e => ?_)
      rw [List.getElem?_eq_none (by omega)] at hk
      cases hk
    rw [List.getElem?_append_left hi]
    exact hk
  · have := h (ts.length + i) k (by rw [List.getElem?_append_right (by omega), show ts.length + i - ts.length = i by omega]; exact hk)
    rw [show p + (ts.length : Int) + (i : Int) = p + ((ts.length + i : Nat) : Int) by omega]
    exact this
theorem tq_cons {σ : mi_Sg} {p k : Int} {ts : List Int} (h : tq σ p (k :: ts)) : mi_sA σ 5 (p + 0) = k ∧ tq σ (p + 1) ts := by
  refine ⟨h 0 k rfl, fun i k' hk => ?_⟩
  have := h (i + 1) k' hk
  rw [show p + 1 + (i : Int) = p + ((i + 1 : Nat) : Int) by omega]
  exact this
theorem tq_ps {σ σ1 : mi_Sg} {n p p' : Int} {l : List (Int × Int × Int)} {ts : List Int} (a : ps26_Q σ σ1 n l) (h : tq σ p ts) (e : p' = p) : tq σ1 p' ts := fun i k hk => by
  rw [a.1.2.1 5 _ (by decide), e]
  exact h i k hk
/-- what may follow -/
def fo (w k : Int) : Prop := (0 ≤ k ∧ k ≤ 1000) ∧ (k ≠ 13 ∧ k ≠ 15 ∧ k ≠ 40) ∧ (w ≤ 1 → k ≠ 42) ∧ (w = 0 → k ≠ 17)
/-- a method reads tokens of the kinds ts and adds the steps l -/
def FS (X : mi_X) (d : Nat) (M : mi_M) (dd w : Int) (ts : List Int) (l : Int → List (Int × Int × Int)) : Prop := ∀ (σ : mi_Sg) (kx : Int), pw26 σ → tq σ (mi_sF σ 42 3) ts → mi_sF σ 42 3 + ts.length < mi_sF σ 3 7 → mi_sA σ 5 (mi_sF σ 42 3 + ts.length) = kx → fo w kx → mi_sF σ 26 7 + (l (mi_sF σ 42 3)).length ≤ 1000 → ty_Cv X d M [(0, .ref 42), (1, .int (Int32.ofInt dd))] σ (fun σ' => ps26_Q σ σ' ts.length (l (mi_sF σ 42 3)))
theorem ps26_k2 {σ σ1 : mi_Sg} {n m w j : Int} {l : List (Int × Int × Int)} (a : ps26_Q σ σ1 n l) (h : mi_sA σ 5 (mi_sF σ 42 3 + m) = w) (e : n + j = m) : mi_sA σ1 5 (mi_sF σ1 42 3 + j) = w := by
  rw [a.2.1, a.1.2.1 5 _ (by decide), Int.add_assoc, e]
  exact h
theorem pr26_starts1 {X : mi_X} {σ : mi_Sg} {d : Nat} {w : Int} (h0 : mi_sF σ 2 0 = 0) (h1 : 0 ≤ mi_sF σ 42 3) (h2 : mi_sF σ 42 3 < mi_sF σ 3 7) (h3 : mi_sF σ 3 7 ≤ 301) (hk : mi_sA σ 5 (mi_sF σ 42 3) = w) (hw : w = 13 ∨ w = 15 ∨ w = 40) (hr : 0 ≤ w ∧ w ≤ 1000) : ty_Ci X (d + 2) mi_M81 [(0, .ref 42)] σ (fun x σ' => x = 1 ∧ σ' = σ) := by
  intro h S
  have fr := mi_Fm_rf h
  refine mi_wp_p (pc' := 1) (st' := [.ref 42]) rfl rfl rfl ?_
  refine ty_s_ci rfl rfl rfl rfl rfl rfl (mi_cal_v2 (np := 0) (args := [.ref 42]) (rest := []) rfl rfl rfl rfl rfl (Nat.le_of_ble_eq_true rfl) rfl rfl (Nat.le_of_ble_eq_true rfl) (ty_rcS S (List.mem_of_getElem? (i := 18) rfl))) (Nat.le_of_ble_eq_true rfl) S (pr26_kind h0 h1 h2 h3 hk) ?_
  intro x hh σu S f P
  obtain ⟨e1, e2⟩ := P
  rw [e2] at S
  rw [e1]
  clear e1 e2
  replace fr := mi_Fm_tr fr f
  refine mi_s_k (pc' := 6) (e := 15) rfl rfl rfl (by decide +kernel) ?_
  refine mi_s_if2 (t := 27) rfl rfl rfl (by unfold mi_R; omega) (by unfold mi_R; omega) ?_ ?_
  · intro (c1 : w = 15)
    refine mi_wp_p (pc' := 28) (st' := [.int (Int32.ofInt 1)]) rfl rfl rfl ?_
    refine mi_wp_p (pc' := 32) rfl rfl rfl ?_
    exact ty_s_ret S fr rfl rfl rfl rfl ⟨_, rfl, rfl, rfl⟩
  · intro (c1 : ¬ (w = 15))
    refine mi_wp_p (pc' := 10) (st' := [.ref 42]) rfl rfl rfl ?_
    refine ty_s_ci rfl rfl rfl rfl rfl rfl (mi_cal_v2 (np := 0) (args := [.ref 42]) (rest := []) rfl rfl rfl rfl rfl (Nat.le_of_ble_eq_true rfl) rfl rfl (Nat.le_of_ble_eq_true rfl) (ty_rcS S (List.mem_of_getElem? (i := 18) rfl))) (Nat.le_of_ble_eq_true rfl) S (pr26_kind h0 h1 h2 h3 hk) ?_
    intro x hh σu S f P
    obtain ⟨e1, e2⟩ := P
    rw [e2] at S
    rw [e1]
    clear e1 e2
    replace fr := mi_Fm_tr fr f
    refine mi_s_k (pc' := 15) (e := 13) rfl rfl rfl (by decide +kernel) ?_
    refine mi_s_if2 (t := 27) rfl rfl rfl (by unfold mi_R; omega) (by unfold mi_R; omega) ?_ ?_
    · intro (c2 : w = 13)
      refine mi_wp_p (pc' := 28) (st' := [.int (Int32.ofInt 1)]) rfl rfl rfl ?_
      refine mi_wp_p (pc' := 32) rfl rfl rfl ?_
      exact ty_s_ret S fr rfl rfl rfl rfl ⟨_, rfl, rfl, rfl⟩
    · intro (c2 : ¬ (w = 13))
      refine mi_wp_p (pc' := 19) (st' := [.ref 42]) rfl rfl rfl ?_
      refine ty_s_ci rfl rfl rfl rfl rfl rfl (mi_cal_v2 (np := 0) (args := [.ref 42]) (rest := []) rfl rfl rfl rfl rfl (Nat.le_of_ble_eq_true rfl) rfl rfl (Nat.le_of_ble_eq_true rfl) (ty_rcS S (List.mem_of_getElem? (i := 18) rfl))) (Nat.le_of_ble_eq_true rfl) S (pr26_kind h0 h1 h2 h3 hk) ?_
      intro x hh σu S f P
      obtain ⟨e1, e2⟩ := P
      rw [e2] at S
      rw [e1]
      clear e1 e2
      replace fr := mi_Fm_tr fr f
      refine mi_s_k (pc' := 24) (e := 40) rfl rfl rfl (by decide +kernel) ?_
      refine mi_s_if2 (t := 31) rfl rfl rfl (by unfold mi_R; omega) (by unfold mi_R; omega) ?_ ?_
      · intro (c3 : w ≠ 40)
        refine mi_wp_p (pc' := 32) (st' := [.int (Int32.ofInt 0)]) rfl rfl rfl ?_
        exact ty_s_ret S fr rfl rfl rfl rfl ⟨_, rfl, by omega, rfl⟩
      · intro (c3 : ¬ (w ≠ 40))
        refine mi_wp_p (pc' := 28) (st' := [.int (Int32.ofInt 1)]) rfl rfl rfl ?_
        refine mi_wp_p (pc' := 32) rfl rfl rfl ?_
        exact ty_s_ret S fr rfl rfl rfl rfl ⟨_, rfl, rfl, rfl⟩
theorem pr26_starts0 {X : mi_X} {σ : mi_Sg} {d : Nat} {w : Int} (h0 : mi_sF σ 2 0 = 0) (h1 : 0 ≤ mi_sF σ 42 3) (h2 : mi_sF σ 42 3 < mi_sF σ 3 7) (h3 : mi_sF σ 3 7 ≤ 301) (hk : mi_sA σ 5 (mi_sF σ 42 3) = w) (hw : w ≠ 13 ∧ w ≠ 15 ∧ w ≠ 40) (hr : 0 ≤ w ∧ w ≤ 1000) : ty_Ci X (d + 2) mi_M81 [(0, .ref 42)] σ (fun x σ' => x = 0 ∧ σ' = σ) := by
  intro h S
  have fr := mi_Fm_rf h
  refine mi_wp_p (pc' := 1) (st' := [.ref 42]) rfl rfl rfl ?_
  refine ty_s_ci rfl rfl rfl rfl rfl rfl (mi_cal_v2 (np := 0) (args := [.ref 42]) (rest := []) rfl rfl rfl rfl rfl (Nat.le_of_ble_eq_true rfl) rfl rfl (Nat.le_of_ble_eq_true rfl) (ty_rcS S (List.mem_of_getElem? (i := 18) rfl))) (Nat.le_of_ble_eq_true rfl) S (pr26_kind h0 h1 h2 h3 hk) ?_
  intro x hh σu S f P
  obtain ⟨e1, e2⟩ := P
  rw [e2] at S
  rw [e1]
  clear e1 e2
  replace fr := mi_Fm_tr fr f
  refine mi_s_k (pc' := 6) (e := 15) rfl rfl rfl (by decide +kernel) ?_
  refine mi_s_if2 (t := 27) rfl rfl rfl (by unfold mi_R; omega) (by unfold mi_R; omega) ?_ ?_
  · intro (c4 : w = 15)
    refine mi_wp_p (pc' := 28) (st' := [.int (Int32.ofInt 1)]) rfl rfl rfl ?_
    refine mi_wp_p (pc' := 32) rfl rfl rfl ?_
    exact ty_s_ret S fr rfl rfl rfl rfl ⟨_, rfl, by omega, rfl⟩
  · intro (c4 : ¬ (w = 15))
    refine mi_wp_p (pc' := 10) (st' := [.ref 42]) rfl rfl rfl ?_
    refine ty_s_ci rfl rfl rfl rfl rfl rfl (mi_cal_v2 (np := 0) (args := [.ref 42]) (rest := []) rfl rfl rfl rfl rfl (Nat.le_of_ble_eq_true rfl) rfl rfl (Nat.le_of_ble_eq_true rfl) (ty_rcS S (List.mem_of_getElem? (i := 18) rfl))) (Nat.le_of_ble_eq_true rfl) S (pr26_kind h0 h1 h2 h3 hk) ?_
    intro x hh σu S f P
    obtain ⟨e1, e2⟩ := P
    rw [e2] at S
    rw [e1]
    clear e1 e2
    replace fr := mi_Fm_tr fr f
    refine mi_s_k (pc' := 15) (e := 13) rfl rfl rfl (by decide +kernel) ?_
    refine mi_s_if2 (t := 27) rfl rfl rfl (by unfold mi_R; omega) (by unfold mi_R; omega) ?_ ?_
    · intro (c5 : w = 13)
      refine mi_wp_p (pc' := 28) (st' := [.int (Int32.ofInt 1)]) rfl rfl rfl ?_
      refine mi_wp_p (pc' := 32) rfl rfl rfl ?_
      exact ty_s_ret S fr rfl rfl rfl rfl ⟨_, rfl, by omega, rfl⟩
    · intro (c5 : ¬ (w = 13))
      refine mi_wp_p (pc' := 19) (st' := [.ref 42]) rfl rfl rfl ?_
      refine ty_s_ci rfl rfl rfl rfl rfl rfl (mi_cal_v2 (np := 0) (args := [.ref 42]) (rest := []) rfl rfl rfl rfl rfl (Nat.le_of_ble_eq_true rfl) rfl rfl (Nat.le_of_ble_eq_true rfl) (ty_rcS S (List.mem_of_getElem? (i := 18) rfl))) (Nat.le_of_ble_eq_true rfl) S (pr26_kind h0 h1 h2 h3 hk) ?_
      intro x hh σu S f P
      obtain ⟨e1, e2⟩ := P
      rw [e2] at S
      rw [e1]
      clear e1 e2
      replace fr := mi_Fm_tr fr f
      refine mi_s_k (pc' := 24) (e := 40) rfl rfl rfl (by decide +kernel) ?_
      refine mi_s_if2 (t := 31) rfl rfl rfl (by unfold mi_R; omega) (by unfold mi_R; omega) ?_ ?_
      · intro (c6 : w ≠ 40)
        refine mi_wp_p (pc' := 32) (st' := [.int (Int32.ofInt 0)]) rfl rfl rfl ?_
        exact ty_s_ret S fr rfl rfl rfl rfl ⟨_, rfl, rfl, rfl⟩
      · intro (c6 : ¬ (w ≠ 40))
        refine mi_wp_p (pc' := 28) (st' := [.int (Int32.ofInt 1)]) rfl rfl rfl ?_
        refine mi_wp_p (pc' := 32) rfl rfl rfl ?_
        exact ty_s_ret S fr rfl rfl rfl rfl ⟨_, rfl, by omega, rfl⟩
theorem fm_part_var {X : mi_X} {d : Nat} {dd : Int}   : FS X (d + 4) mi_M73 dd 3 ([15]) (fun p => [(5, p, 0)]) := by
  intro σ kx pw T hlen hkx hfo hroom h S
  have fr := mi_Fm_rf h
  have A0 := ps26_rf (σ := σ)
  have pw0 := pw
  obtain ⟨q1, q2, q3, q4, q5⟩ := pw0
  obtain ⟨fo1, fo2, fo3, fo4⟩ := hfo
  try simp only [List.length_cons, List.length_append, List.length_nil] at hlen
  try simp only [List.length_cons, List.length_append, List.length_nil] at hroom
  obtain ⟨t0, T1⟩ := tq_cons T
  refine mi_wp_p (pc' := 1) (st' := [.ref 42]) rfl rfl rfl ?_
  refine ty_s_ci rfl rfl rfl rfl rfl rfl (mi_cal_v2 (np := 0) (args := [.ref 42]) (rest := []) rfl rfl rfl rfl rfl (Nat.le_of_ble_eq_true rfl) rfl rfl (Nat.le_of_ble_eq_true rfl) (ty_rcS S (List.mem_of_getElem? (i := 18) rfl))) (Nat.le_of_ble_eq_true rfl) S (pr26_kind (σ := σ) pw.1 pw.2.2.1 (by omega) pw.2.2.2.1 (ps26_k A0 t0 (by first | omega | (simp only [List.length_cons, List.length_append, List.length_nil]; omega)))) ?_
  intro x hh σu S f P
  obtain ⟨e1, e2⟩ := P
  rw [e2] at S
  rw [e1]
  clear e1 e2
  replace fr := mi_Fm_tr fr f
  refine mi_s_k (pc' := 6) (e := 15) rfl rfl rfl (by decide +kernel) ?_
  refine mi_s_if2 (t := 30) rfl rfl rfl (by unfold mi_R; omega) (by unfold mi_R; omega) (fun hc_ => absurd (show (15 : Int) ≠ 15 from hc_) (by omega)) (fun _ => ?_)
  refine mi_wp_p (pc' := 10) (st' := [.ref 42]) rfl rfl rfl ?_
  refine mi_wp_p (pc' := 11) (st' := [.int (Int32.ofInt 5), .ref 42]) rfl rfl rfl ?_
  refine mi_wp_p (pc' := 12) (st' := [.ref 42, .int (Int32.ofInt 5), .ref 42]) rfl rfl rfl ?_
  refine ty_s_gf (x := mi_sF σ 42 3) S rfl rfl rfl (List.mem_of_getElem? (i := 18) rfl) rfl ?_
  refine mi_wp_p (pc' := 16) (st' := [.int (Int32.ofInt 0), .int (Int32.ofInt (mi_sF σ 42 3)), .int (Int32.ofInt 5), .ref 42]) rfl rfl rfl ?_
  refine mi_wp_p (pc' := 17) (st' := [.int (Int32.ofInt 0), .int (Int32.ofInt 0), .int (Int32.ofInt (mi_sF σ 42 3)), .int (Int32.ofInt 5), .ref 42]) rfl rfl rfl ?_
  refine ty_s_ci rfl rfl rfl rfl rfl rfl (mi_cal_v2 (np := 4) (args := [.ref 42, .int (Int32.ofInt 5), .int (Int32.ofInt (mi_sF σ 42 3)), .int (Int32.ofInt 0), .int (Int32.ofInt 0)]) (rest := []) rfl rfl rfl rfl rfl (Nat.le_of_ble_eq_true rfl) rfl rfl (Nat.le_of_ble_eq_true rfl) (ty_rcS S (List.mem_of_getElem? (i := 18) rfl))) (Nat.le_of_ble_eq_true rfl) S (pr26_add (σ := σ) pw (by omega)) ?_
  intro x hh σ1 S f P0
  obtain ⟨e1, P1⟩ := P0
  rw [e1]
  have A1 := ps26_tr pw.2.2.2.2 A0 P1
  have pw1 := ps26_pw A1 pw (by omega)
  have g1 := ps26_7 A1
  try simp only [List.length_append, List.length_cons, List.length_nil] at g1
  replace fr := mi_Fm_tr fr f
  refine mi_wp_p (pc' := 21) (st' := []) rfl rfl rfl ?_
  refine mi_wp_p (pc' := 22) (st' := [.ref 42]) rfl rfl rfl ?_
  refine mi_s_k (pc' := 24) (e := 15) rfl rfl rfl (by decide +kernel) ?_
  refine ty_s_cv rfl rfl rfl rfl rfl rfl (mi_cal_v2 (np := 1) (args := [.ref 42, .int (Int32.ofInt 15)]) (rest := []) rfl rfl rfl rfl rfl (Nat.le_of_ble_eq_true rfl) rfl rfl (Nat.le_of_ble_eq_true rfl) (ty_rcS S (List.mem_of_getElem? (i := 18) rfl))) (Nat.le_of_ble_eq_true rfl) S (pr26_take (σ := σ1) pw1.1 pw1.2.2.1 (by omega) pw1.2.2.2.1 (ps26_k A1 t0 (by first | omega | (simp only [List.length_cons, List.length_append, List.length_nil]; omega))) (by omega)) ?_
  intro hh σ2 S f P2
  have A2 := ps26_tr pw.2.2.2.2 A1 P2
  have pw2 := ps26_pw A2 pw (by omega)
  have g2 := ps26_7 A2
  try simp only [List.length_append, List.length_cons, List.length_nil] at g2
  replace fr := mi_Fm_tr fr f
  refine mi_wp_p (pc' := 93) rfl rfl rfl ?_
  exact ty_s_ret S fr rfl rfl rfl rfl ⟨rfl, ps26_eq A2 (by first | omega | (simp only [List.length_cons, List.length_append, List.length_nil]; omega)) (by first | rfl | simp only [g1.2.1, g2.2.1, List.nil_append, List.append_nil, List.append_assoc, List.cons_append, Int.add_zero, Int.zero_add, Int.add_assoc])⟩
theorem fm_part_name {X : mi_X} {d : Nat} {dd : Int}   : FS X (d + 4) mi_M73 dd 3 ([13]) (fun p => [(6, p, 0), (7, p, 0)]) := by
  intro σ kx pw T hlen hkx hfo hroom h S
  have fr := mi_Fm_rf h
  have A0 := ps26_rf (σ := σ)
  have pw0 := pw
  obtain ⟨q1, q2, q3, q4, q5⟩ := pw0
  obtain ⟨fo1, fo2, fo3, fo4⟩ := hfo
  try simp only [List.length_cons, List.length_append, List.length_nil] at hlen
  try simp only [List.length_cons, List.length_append, List.length_nil] at hroom
  obtain ⟨t0, T1⟩ := tq_cons T
  refine mi_wp_p (pc' := 1) (st' := [.ref 42]) rfl rfl rfl ?_
  refine ty_s_ci rfl rfl rfl rfl rfl rfl (mi_cal_v2 (np := 0) (args := [.ref 42]) (rest := []) rfl rfl rfl rfl rfl (Nat.le_of_ble_eq_true rfl) rfl rfl (Nat.le_of_ble_eq_true rfl) (ty_rcS S (List.mem_of_getElem? (i := 18) rfl))) (Nat.le_of_ble_eq_true rfl) S (pr26_kind (σ := σ) pw.1 pw.2.2.1 (by omega) pw.2.2.2.1 (ps26_k A0 t0 (by first | omega | (simp only [List.length_cons, List.length_append, List.length_nil]; omega)))) ?_
  intro x hh σu S f P
  obtain ⟨e1, e2⟩ := P
  rw [e2] at S
  rw [e1]
  clear e1 e2
  replace fr := mi_Fm_tr fr f
  refine mi_s_k (pc' := 6) (e := 15) rfl rfl rfl (by decide +kernel) ?_
  refine mi_s_if2 (t := 30) rfl rfl rfl (by unfold mi_R; omega) (by unfold mi_R; omega) (fun _ => ?_) (fun hc_ => absurd (show (13 : Int) ≠ 15 by omega) hc_)
  refine mi_wp_p (pc' := 31) (st' := [.ref 42]) rfl rfl rfl ?_
  refine ty_s_ci rfl rfl rfl rfl rfl rfl (mi_cal_v2 (np := 0) (args := [.ref 42]) (rest := []) rfl rfl rfl rfl rfl (Nat.le_of_ble_eq_true rfl) rfl rfl (Nat.le_of_ble_eq_true rfl) (ty_rcS S (List.mem_of_getElem? (i := 18) rfl))) (Nat.le_of_ble_eq_true rfl) S (pr26_kind (σ := σ) pw.1 pw.2.2.1 (by omega) pw.2.2.2.1 (ps26_k A0 t0 (by first | omega | (simp only [List.length_cons, List.length_append, List.length_nil]; omega)))) ?_
  intro x hh σu S f P
  obtain ⟨e1, e2⟩ := P
  rw [e2] at S
  rw [e1]
  clear e1 e2
  replace fr := mi_Fm_tr fr f
  refine mi_s_k (pc' := 36) (e := 13) rfl rfl rfl (by decide +kernel) ?_
  refine mi_s_if2 (t := 74) rfl rfl rfl (by unfold mi_R; omega) (by unfold mi_R; omega) (fun hc_ => absurd (show (13 : Int) ≠ 13 from hc_) (by omega)) (fun _ => ?_)
  refine mi_wp_p (pc' := 40) (st' := [.ref 42]) rfl rfl rfl ?_
  refine mi_s_k (pc' := 42) (e := 6) rfl rfl rfl (by decide +kernel) ?_
  refine mi_wp_p (pc' := 43) (st' := [.ref 42, .int (Int32.ofInt 6), .ref 42]) rfl rfl rfl ?_
  refine ty_s_gf (x := mi_sF σ 42 3) S rfl rfl rfl (List.mem_of_getElem? (i := 18) rfl) rfl ?_
  refine mi_wp_p (pc' := 47) (st' := [.int (Int32.ofInt 0), .int (Int32.ofInt (mi_sF σ 42 3)), .int (Int32.ofInt 6), .ref 42]) rfl rfl rfl ?_
  refine mi_wp_p (pc' := 48) (st' := [.int (Int32.ofInt 0), .int (Int32.ofInt 0), .int (Int32.ofInt (mi_sF σ 42 3)), .int (Int32.ofInt 6), .ref 42]) rfl rfl rfl ?_
  refine ty_s_ci rfl rfl rfl rfl rfl rfl (mi_cal_v2 (np := 4) (args := [.ref 42, .int (Int32.ofInt 6), .int (Int32.ofInt (mi_sF σ 42 3)), .int (Int32.ofInt 0), .int (Int32.ofInt 0)]) (rest := []) rfl rfl rfl rfl rfl (Nat.le_of_ble_eq_true rfl) rfl rfl (Nat.le_of_ble_eq_true rfl) (ty_rcS S (List.mem_of_getElem? (i := 18) rfl))) (Nat.le_of_ble_eq_true rfl) S (pr26_add (σ := σ) pw (by omega)) ?_
  intro x hh σ1 S f P0
  obtain ⟨e1, P1⟩ := P0
  rw [e1]
  have A1 := ps26_tr pw.2.2.2.2 A0 P1
  have pw1 := ps26_pw A1 pw (by omega)
  have g1 := ps26_7 A1
  try simp only [List.length_append, List.length_cons, List.length_nil] at g1
  replace fr := mi_Fm_tr fr f
  refine mi_wp_p (pc' := 52) (st' := []) rfl rfl rfl ?_
  refine mi_wp_p (pc' := 53) (st' := [.ref 42]) rfl rfl rfl ?_
  refine mi_s_k (pc' := 55) (e := 7) rfl rfl rfl (by decide +kernel) ?_
  refine mi_wp_p (pc' := 56) (st' := [.ref 42, .int (Int32.ofInt 7), .ref 42]) rfl rfl rfl ?_
  refine ty_s_gf (x := mi_sF σ1 42 3) S rfl rfl rfl (List.mem_of_getElem? (i := 18) rfl) rfl ?_
  refine mi_wp_p (pc' := 60) (st' := [.int (Int32.ofInt 0), .int (Int32.ofInt (mi_sF σ1 42 3)), .int (Int32.ofInt 7), .ref 42]) rfl rfl rfl ?_
  refine mi_wp_p (pc' := 61) (st' := [.int (Int32.ofInt 0), .int (Int32.ofInt 0), .int (Int32.ofInt (mi_sF σ1 42 3)), .int (Int32.ofInt 7), .ref 42]) rfl rfl rfl ?_
  refine ty_s_ci rfl rfl rfl rfl rfl rfl (mi_cal_v2 (np := 4) (args := [.ref 42, .int (Int32.ofInt 7), .int (Int32.ofInt (mi_sF σ1 42 3)), .int (Int32.ofInt 0), .int (Int32.ofInt 0)]) (rest := []) rfl rfl rfl rfl rfl (Nat.le_of_ble_eq_true rfl) rfl rfl (Nat.le_of_ble_eq_true rfl) (ty_rcS S (List.mem_of_getElem? (i := 18) rfl))) (Nat.le_of_ble_eq_true rfl) S (pr26_add (σ := σ1) pw1 (by omega)) ?_
  intro x hh σ2 S f P0
  obtain ⟨e1, P2⟩ := P0
  rw [e1]
  have A2 := ps26_tr pw.2.2.2.2 A1 P2
  have pw2 := ps26_pw A2 pw (by omega)
  have g2 := ps26_7 A2
  try simp only [List.length_append, List.length_cons, List.length_nil] at g2
  replace fr := mi_Fm_tr fr f
  refine mi_wp_p (pc' := 65) (st' := []) rfl rfl rfl ?_
  refine mi_wp_p (pc' := 66) (st' := [.ref 42]) rfl rfl rfl ?_
  refine mi_s_k (pc' := 68) (e := 13) rfl rfl rfl (by decide +kernel) ?_
  refine ty_s_cv rfl rfl rfl rfl rfl rfl (mi_cal_v2 (np := 1) (args := [.ref 42, .int (Int32.ofInt 13)]) (rest := []) rfl rfl rfl rfl rfl (Nat.le_of_ble_eq_true rfl) rfl rfl (Nat.le_of_ble_eq_true rfl) (ty_rcS S (List.mem_of_getElem? (i := 18) rfl))) (Nat.le_of_ble_eq_true rfl) S (pr26_take (σ := σ2) pw2.1 pw2.2.2.1 (by omega) pw2.2.2.2.1 (ps26_k A2 t0 (by first | omega | (simp only [List.length_cons, List.length_append, List.length_nil]; omega))) (by omega)) ?_
  intro hh σ3 S f P3
  have A3 := ps26_tr pw.2.2.2.2 A2 P3
  have pw3 := ps26_pw A3 pw (by omega)
  have g3 := ps26_7 A3
  try simp only [List.length_append, List.length_cons, List.length_nil] at g3
  replace fr := mi_Fm_tr fr f
  refine mi_wp_p (pc' := 93) rfl rfl rfl ?_
  exact ty_s_ret S fr rfl rfl rfl rfl ⟨rfl, ps26_eq A3 (by first | omega | (simp only [List.length_cons, List.length_append, List.length_nil]; omega)) (by first | rfl | simp only [g1.2.1, g2.2.1, g3.2.1, List.nil_append, List.append_nil, List.append_assoc, List.cons_append, Int.add_zero, Int.zero_add, Int.add_assoc])⟩
theorem fm_part_par {X : mi_X} {d : Nat} {dd : Int} {ts : List Int} {l : Int → List (Int × Int × Int)} (hF : FS X (d + 3) mi_M66 (dd + 1) 0 ts l) : FS X (d + 4) mi_M73 dd 3 ((40 :: (ts ++ [41]))) (fun p => l (p + 1)) := by
  intro σ kx pw T hlen hkx hfo hroom h S
  have fr := mi_Fm_rf h
  have A0 := ps26_rf (σ := σ)
  have pw0 := pw
  obtain ⟨q1, q2, q3, q4, q5⟩ := pw0
  obtain ⟨fo1, fo2, fo3, fo4⟩ := hfo
  try simp only [List.length_cons, List.length_append, List.length_nil] at hlen
  try simp only [List.length_cons, List.length_append, List.length_nil] at hroom
  obtain ⟨t0, T1⟩ := tq_cons T
  obtain ⟨Ta, Tb⟩ := tq_app T1
  obtain ⟨t1, -⟩ := tq_cons Tb
  have t1' : mi_sA σ 5 (mi_sF σ 42 3 + (1 + ts.length)) = 41 := by rw [← t1]; congr 1; omega
  refine mi_wp_p (pc' := 1) (st' := [.ref 42]) rfl rfl rfl ?_
  refine ty_s_ci rfl rfl rfl rfl rfl rfl (mi_cal_v2 (np := 0) (args := [.ref 42]) (rest := []) rfl rfl rfl rfl rfl (Nat.le_of_ble_eq_true rfl) rfl rfl (Nat.le_of_ble_eq_true rfl) (ty_rcS S (List.mem_of_getElem? (i := 18) rfl))) (Nat.le_of_ble_eq_true rfl) S (pr26_kind (σ := σ) pw.1 pw.2.2.1 (by omega) pw.2.2.2.1 (ps26_k A0 t0 (by first | omega | (simp only [List.length_cons, List.length_append, List.length_nil]; omega)))) ?_
  intro x hh σu S f P
  obtain ⟨e1, e2⟩ := P
  rw [e2] at S
  rw [e1]
  clear e1 e2
  replace fr := mi_Fm_tr fr f
  refine mi_s_k (pc' := 6) (e := 15) rfl rfl rfl (by decide +kernel) ?_
  refine mi_s_if2 (t := 30) rfl rfl rfl (by unfold mi_R; omega) (by unfold mi_R; omega) (fun _ => ?_) (fun hc_ => absurd (show (40 : Int) ≠ 15 by omega) hc_)
  refine mi_wp_p (pc' := 31) (st' := [.ref 42]) rfl rfl rfl ?_
  refine ty_s_ci rfl rfl rfl rfl rfl rfl (mi_cal_v2 (np := 0) (args := [.ref 42]) (rest := []) rfl rfl rfl rfl rfl (Nat.le_of_ble_eq_true rfl) rfl rfl (Nat.le_of_ble_eq_true rfl) (ty_rcS S (List.mem_of_getElem? (i := 18) rfl))) (Nat.le_of_ble_eq_true rfl) S (pr26_kind (σ := σ) pw.1 pw.2.2.1 (by omega) pw.2.2.2.1 (ps26_k A0 t0 (by first | omega | (simp only [List.length_cons, List.length_append, List.length_nil]; omega)))) ?_
  intro x hh σu S f P
  obtain ⟨e1, e2⟩ := P
  rw [e2] at S
  rw [e1]
  clear e1 e2
  replace fr := mi_Fm_tr fr f
  refine mi_s_k (pc' := 36) (e := 13) rfl rfl rfl (by decide +kernel) ?_
  refine mi_s_if2 (t := 74) rfl rfl rfl (by unfold mi_R; omega) (by unfold mi_R; omega) (fun _ => ?_) (fun hc_ => absurd (show (40 : Int) ≠ 13 by omega) hc_)
  refine mi_wp_p (pc' := 75) (st' := [.ref 42]) rfl rfl rfl ?_
  refine mi_s_k (pc' := 77) (e := 40) rfl rfl rfl (by decide +kernel) ?_
  refine ty_s_cv rfl rfl rfl rfl rfl rfl (mi_cal_v2 (np := 1) (args := [.ref 42, .int (Int32.ofInt 40)]) (rest := []) rfl rfl rfl rfl rfl (Nat.le_of_ble_eq_true rfl) rfl rfl (Nat.le_of_ble_eq_true rfl) (ty_rcS S (List.mem_of_getElem? (i := 18) rfl))) (Nat.le_of_ble_eq_true rfl) S (pr26_take (σ := σ) pw.1 pw.2.2.1 (by omega) pw.2.2.2.1 (ps26_k A0 t0 (by first | omega | (simp only [List.length_cons, List.length_append, List.length_nil]; omega))) (by omega)) ?_
  intro hh σ1 S f P1
  have A1 := ps26_tr pw.2.2.2.2 A0 P1
  have pw1 := ps26_pw A1 pw (by omega)
  have g1 := ps26_7 A1
  try simp only [List.length_append, List.length_cons, List.length_nil] at g1
  replace fr := mi_Fm_tr fr f
  refine mi_wp_p (pc' := 81) (st' := [.ref 42]) rfl rfl rfl ?_
  refine mi_wp_p (pc' := 82) (st' := [.int (Int32.ofInt dd), .ref 42]) rfl rfl rfl ?_
  refine mi_wp_p (pc' := 83) (st' := [.int (Int32.ofInt 1), .int (Int32.ofInt dd), .ref 42]) rfl rfl rfl ?_
  refine mi_s_add rfl rfl ?_
  have ep2 : mi_sF σ1 42 3 = mi_sF σ 42 3 + (1) := by omega
  have Tk2 := tq_ps (p' := mi_sF σ1 42 3) A1 Ta (by omega)
  have hn2 : mi_sA σ1 5 (mi_sF σ1 42 3 + (ts.length)) = 41 := ps26_k2 A1 t1' (by first | omega | (simp only [List.length_cons, List.length_append, List.length_nil]; omega))
  have hr2 : mi_sF σ1 26 7 + (l (mi_sF σ1 42 3)).length ≤ 1000 := by rw [ep2]; omega
  refine ty_s_cv rfl rfl rfl rfl rfl rfl (mi_cal_v2 (np := 1) (args := [.ref 42, .int (Int32.ofInt (dd + 1))]) (rest := []) rfl rfl rfl rfl rfl (Nat.le_of_ble_eq_true rfl) rfl rfl (Nat.le_of_ble_eq_true rfl) (ty_rcS S (List.mem_of_getElem? (i := 18) rfl))) (Nat.le_of_ble_eq_true rfl) S (hF σ1 41 pw1 Tk2 (by first | omega | (simp only [List.length_cons, List.length_append, List.length_nil]; omega)) hn2 (by unfold fo; omega) hr2) ?_
  intro hh σ2 S f P2
  rw [ep2] at P2
  have A2 := ps26_tr pw.2.2.2.2 A1 P2
  have pw2 := ps26_pw A2 pw (by omega)
  have g2 := ps26_7 A2
  try simp only [List.length_append, List.length_cons, List.length_nil] at g2
  replace fr := mi_Fm_tr fr f
  refine mi_wp_p (pc' := 88) (st' := [.ref 42]) rfl rfl rfl ?_
  refine mi_s_k (pc' := 90) (e := 41) rfl rfl rfl (by decide +kernel) ?_
  refine ty_s_cv rfl rfl rfl rfl rfl rfl (mi_cal_v2 (np := 1) (args := [.ref 42, .int (Int32.ofInt 41)]) (rest := []) rfl rfl rfl rfl rfl (Nat.le_of_ble_eq_true rfl) rfl rfl (Nat.le_of_ble_eq_true rfl) (ty_rcS S (List.mem_of_getElem? (i := 18) rfl))) (Nat.le_of_ble_eq_true rfl) S (pr26_take (σ := σ2) pw2.1 pw2.2.2.1 (by omega) pw2.2.2.2.1 (ps26_k A2 t1' (by first | omega | (simp only [List.length_cons, List.length_append, List.length_nil]; omega))) (by omega)) ?_
  intro hh σ3 S f P3
  have A3 := ps26_tr pw.2.2.2.2 A2 P3
  have pw3 := ps26_pw A3 pw (by omega)
  have g3 := ps26_7 A3
  try simp only [List.length_append, List.length_cons, List.length_nil] at g3
  replace fr := mi_Fm_tr fr f
  exact ty_s_ret S fr rfl rfl rfl rfl ⟨rfl, ps26_eq A3 (by first | omega | (simp only [List.length_cons, List.length_append, List.length_nil]; omega)) (by first | rfl | simp only [g1.2.1, g2.2.1, g3.2.1, List.nil_append, List.append_nil, List.append_assoc, List.cons_append, Int.add_zero, Int.zero_add, Int.add_assoc])⟩
theorem fm_use_part {X : mi_X} {d : Nat} {dd : Int} {ts : List Int} {l : Int → List (Int × Int × Int)} {tk : Int} (ht : tk ≠ 13) (htr : 0 ≤ tk ∧ tk ≤ 1000) (hP : FS X (d + 4) mi_M73 dd 3 (tk :: ts) l) : FS X (d + 5) mi_M68 dd 2 ((tk :: ts)) (fun p => l p) := by
  intro σ kx pw T hlen hkx hfo hroom h S
  have fr := mi_Fm_rf h
  have A0 := ps26_rf (σ := σ)
  have pw0 := pw
  obtain ⟨q1, q2, q3, q4, q5⟩ := pw0
  obtain ⟨fo1, fo2, fo3, fo4⟩ := hfo
  try simp only [List.length_cons, List.length_append, List.length_nil] at hlen
  try simp only [List.length_cons, List.length_append, List.length_nil] at hroom
  obtain ⟨t0, -⟩ := tq_cons T
  have T0 := T
  rw [show mi_sF σ 42 3 = mi_sF σ 42 3 + 0 by omega] at hroom
  refine mi_wp_p (pc' := 1) (st' := [.ref 42]) rfl rfl rfl ?_
  refine ty_s_ci rfl rfl rfl rfl rfl rfl (mi_cal_v2 (np := 0) (args := [.ref 42]) (rest := []) rfl rfl rfl rfl rfl (Nat.le_of_ble_eq_true rfl) rfl rfl (Nat.le_of_ble_eq_true rfl) (ty_rcS S (List.mem_of_getElem? (i := 18) rfl))) (Nat.le_of_ble_eq_true rfl) S (pr26_kind (σ := σ) pw.1 pw.2.2.1 (by omega) pw.2.2.2.1 (ps26_k A0 t0 (by first | omega | (simp only [List.length_cons, List.length_append, List.length_nil]; omega)))) ?_
  intro x hh σu S f P
  obtain ⟨e1, e2⟩ := P
  rw [e2] at S
  rw [e1]
  clear e1 e2
  replace fr := mi_Fm_tr fr f
  refine mi_s_k (pc' := 6) (e := 13) rfl rfl rfl (by decide +kernel) ?_
  refine mi_s_if2 (t := 15) rfl rfl rfl (by unfold mi_R; omega) (by unfold mi_R; omega) (fun hc_ => absurd (show tk = 13 from hc_) (by omega)) (fun _ => ?_)
  refine mi_wp_p (pc' := 10) (st' := [.ref 42]) rfl rfl rfl ?_
  refine mi_wp_p (pc' := 11) (st' := [.int (Int32.ofInt dd), .ref 42]) rfl rfl rfl ?_
  have ep1 : mi_sF σ 42 3 = mi_sF σ 42 3 + (0) := by omega
  have Tk1 := tq_ps (p' := mi_sF σ 42 3) A0 T0 (by omega)
  have hn1 : mi_sA σ 5 (mi_sF σ 42 3 + (((tk :: ts).length : Int))) = kx := ps26_k2 A0 hkx (by first | omega | (simp only [List.length_cons, List.length_append, List.length_nil]; omega))
  have hr1 : mi_sF σ 26 7 + (l (mi_sF σ 42 3)).length ≤ 1000 := by rw [ep1]; omega
  refine ty_s_cv rfl rfl rfl rfl rfl rfl (mi_cal_v2 (np := 1) (args := [.ref 42, .int (Int32.ofInt dd)]) (rest := []) rfl rfl rfl rfl rfl (Nat.le_of_ble_eq_true rfl) rfl rfl (Nat.le_of_ble_eq_true rfl) (ty_rcS S (List.mem_of_getElem? (i := 18) rfl))) (Nat.le_of_ble_eq_true rfl) S (hP σ kx pw Tk1 (by first | omega | (simp only [List.length_cons, List.length_append, List.length_nil]; omega)) hn1 ⟨fo1, fo2, fun q => by first | exact fo3 (by decide) | exact absurd q (by decide), fun q => by first | exact fo4 (by decide) | exact absurd q (by decide)⟩ hr1) ?_
  intro hh σ1 S f P1
  rw [ep1] at P1
  have A1 := ps26_tr pw.2.2.2.2 A0 P1
  have pw1 := ps26_pw A1 pw (by omega)
  have g1 := ps26_7 A1
  try simp only [List.length_append, List.length_cons, List.length_nil] at g1
  replace fr := mi_Fm_tr fr f
  exact ty_s_ret S fr rfl rfl rfl rfl ⟨rfl, ps26_eq A1 (by first | omega | (simp only [List.length_cons, List.length_append, List.length_nil]; omega)) (by first | rfl | simp only [g1.2.1, List.nil_append, List.append_nil, List.append_assoc, List.cons_append, Int.add_zero, Int.zero_add, Int.add_assoc])⟩
theorem fm_use_name {X : mi_X} {d : Nat} {dd : Int}   : FS X (d + 5) mi_M68 dd 2 ([13]) (fun p => [(6, p, 0), (7, p, 0)]) := by
  intro σ kx pw T hlen hkx hfo hroom h S
  have fr := mi_Fm_rf h
  have A0 := ps26_rf (σ := σ)
  have pw0 := pw
  obtain ⟨q1, q2, q3, q4, q5⟩ := pw0
  obtain ⟨fo1, fo2, fo3, fo4⟩ := hfo
  try simp only [List.length_cons, List.length_append, List.length_nil] at hlen
  try simp only [List.length_cons, List.length_append, List.length_nil] at hroom
  obtain ⟨t0, T1⟩ := tq_cons T
  refine mi_wp_p (pc' := 1) (st' := [.ref 42]) rfl rfl rfl ?_
  refine ty_s_ci rfl rfl rfl rfl rfl rfl (mi_cal_v2 (np := 0) (args := [.ref 42]) (rest := []) rfl rfl rfl rfl rfl (Nat.le_of_ble_eq_true rfl) rfl rfl (Nat.le_of_ble_eq_true rfl) (ty_rcS S (List.mem_of_getElem? (i := 18) rfl))) (Nat.le_of_ble_eq_true rfl) S (pr26_kind (σ := σ) pw.1 pw.2.2.1 (by omega) pw.2.2.2.1 (ps26_k A0 t0 (by first | omega | (simp only [List.length_cons, List.length_append, List.length_nil]; omega)))) ?_
  intro x hh σu S f P
  obtain ⟨e1, e2⟩ := P
  rw [e2] at S
  rw [e1]
  clear e1 e2
  replace fr := mi_Fm_tr fr f
  refine mi_s_k (pc' := 6) (e := 13) rfl rfl rfl (by decide +kernel) ?_
  refine mi_s_if2 (t := 15) rfl rfl rfl (by unfold mi_R; omega) (by unfold mi_R; omega) (fun _ => ?_) (fun hc_ => absurd (show (13 : Int) = 13 by omega) hc_)
  refine mi_wp_p (pc' := 16) (st' := [.ref 42]) rfl rfl rfl ?_
  refine ty_s_gf (x := mi_sF σ 42 3) S rfl rfl rfl (List.mem_of_getElem? (i := 18) rfl) rfl ?_
  refine mi_wp_p (pc' := 20) (l' := [(2, .int (Int32.ofInt (mi_sF σ 42 3))), (0, .ref 42), (1, .int (Int32.ofInt dd))]) (st' := []) rfl rfl rfl ?_
  refine mi_wp_p (pc' := 21) (st' := [.ref 42]) rfl rfl rfl ?_
  refine mi_s_k (pc' := 23) (e := 6) rfl rfl rfl (by decide +kernel) ?_
  refine mi_wp_p (pc' := 24) (st' := [.int (Int32.ofInt (mi_sF σ 42 3)), .int (Int32.ofInt 6), .ref 42]) rfl rfl rfl ?_
  refine mi_wp_p (pc' := 25) (st' := [.int (Int32.ofInt 0), .int (Int32.ofInt (mi_sF σ 42 3)), .int (Int32.ofInt 6), .ref 42]) rfl rfl rfl ?_
  refine mi_wp_p (pc' := 26) (st' := [.int (Int32.ofInt 0), .int (Int32.ofInt 0), .int (Int32.ofInt (mi_sF σ 42 3)), .int (Int32.ofInt 6), .ref 42]) rfl rfl rfl ?_
  refine ty_s_ci rfl rfl rfl rfl rfl rfl (mi_cal_v2 (np := 4) (args := [.ref 42, .int (Int32.ofInt 6), .int (Int32.ofInt (mi_sF σ 42 3)), .int (Int32.ofInt 0), .int (Int32.ofInt 0)]) (rest := []) rfl rfl rfl rfl rfl (Nat.le_of_ble_eq_true rfl) rfl rfl (Nat.le_of_ble_eq_true rfl) (ty_rcS S (List.mem_of_getElem? (i := 18) rfl))) (Nat.le_of_ble_eq_true rfl) S (pr26_add (σ := σ) pw (by omega)) ?_
  intro x hh σ1 S f P0
  obtain ⟨e1, P1⟩ := P0
  rw [e1]
  have A1 := ps26_tr pw.2.2.2.2 A0 P1
  have pw1 := ps26_pw A1 pw (by omega)
  have g1 := ps26_7 A1
  try simp only [List.length_append, List.length_cons, List.length_nil] at g1
  replace fr := mi_Fm_tr fr f
  refine mi_wp_p (pc' := 30) (st' := []) rfl rfl rfl ?_
  refine mi_wp_p (pc' := 31) (st' := [.ref 42]) rfl rfl rfl ?_
  refine mi_s_k (pc' := 33) (e := 13) rfl rfl rfl (by decide +kernel) ?_
  refine ty_s_cv rfl rfl rfl rfl rfl rfl (mi_cal_v2 (np := 1) (args := [.ref 42, .int (Int32.ofInt 13)]) (rest := []) rfl rfl rfl rfl rfl (Nat.le_of_ble_eq_true rfl) rfl rfl (Nat.le_of_ble_eq_true rfl) (ty_rcS S (List.mem_of_getElem? (i := 18) rfl))) (Nat.le_of_ble_eq_true rfl) S (pr26_take (σ := σ1) pw1.1 pw1.2.2.1 (by omega) pw1.2.2.2.1 (ps26_k A1 t0 (by first | omega | (simp only [List.length_cons, List.length_append, List.length_nil]; omega))) (by omega)) ?_
  intro hh σ2 S f P2
  have A2 := ps26_tr pw.2.2.2.2 A1 P2
  have pw2 := ps26_pw A2 pw (by omega)
  have g2 := ps26_7 A2
  try simp only [List.length_append, List.length_cons, List.length_nil] at g2
  replace fr := mi_Fm_tr fr f
  refine mi_wp_p (pc' := 37) (st' := [.int (Int32.ofInt 0)]) rfl rfl rfl ?_
  refine mi_wp_p (pc' := 38) (l' := [(3, .int (Int32.ofInt 0)), (2, .int (Int32.ofInt (mi_sF σ 42 3))), (0, .ref 42), (1, .int (Int32.ofInt dd))]) (st' := []) rfl rfl rfl ?_
  refine mi_wp_p (pc' := 39) (st' := [.int (Int32.ofInt 0)]) rfl rfl rfl ?_
  refine mi_s_k (pc' := 42) (e := 300) rfl rfl rfl (by decide +kernel) ?_
  refine mi_s_if2 (t := 63) rfl rfl rfl (by unfold mi_R; omega) (by unfold mi_R; omega) (fun hc_ => absurd (show 300 ≤ (0 : Int) from hc_) (by omega)) (fun _ => ?_)
  refine mi_wp_p (pc' := 46) (st' := [.ref 42]) rfl rfl rfl ?_
  refine ty_s_ci rfl rfl rfl rfl rfl rfl (mi_cal_v2 (np := 0) (args := [.ref 42]) (rest := []) rfl rfl rfl rfl rfl (Nat.le_of_ble_eq_true rfl) rfl rfl (Nat.le_of_ble_eq_true rfl) (ty_rcS S (List.mem_of_getElem? (i := 18) rfl))) (Nat.le_of_ble_eq_true rfl) S (pr26_starts0 (σ := σ2) pw2.1 pw2.2.2.1 (by omega) pw2.2.2.2.1 (ps26_k A2 hkx (by first | omega | (simp only [List.length_cons, List.length_append, List.length_nil]; omega))) (by omega) (by omega)) ?_
  intro x hh σu S f P
  obtain ⟨e1, e2⟩ := P
  rw [e2] at S
  rw [e1]
  clear e1 e2
  replace fr := mi_Fm_tr fr f
  refine mi_s_if1 (t := 63) rfl rfl rfl (by unfold mi_R; omega) (fun _ => ?_) (fun hc_ => absurd (show (0 : Int) = 0 by omega) hc_)
  refine mi_wp_p (pc' := 64) (st' := [.ref 42]) rfl rfl rfl ?_
  refine mi_s_k (pc' := 66) (e := 7) rfl rfl rfl (by decide +kernel) ?_
  refine mi_wp_p (pc' := 67) (st' := [.int (Int32.ofInt (mi_sF σ 42 3)), .int (Int32.ofInt 7), .ref 42]) rfl rfl rfl ?_
  refine mi_wp_p (pc' := 68) (st' := [.int (Int32.ofInt 0), .int (Int32.ofInt (mi_sF σ 42 3)), .int (Int32.ofInt 7), .ref 42]) rfl rfl rfl ?_
  refine mi_wp_p (pc' := 69) (st' := [.int (Int32.ofInt 0), .int (Int32.ofInt 0), .int (Int32.ofInt (mi_sF σ 42 3)), .int (Int32.ofInt 7), .ref 42]) rfl rfl rfl ?_
  refine ty_s_ci rfl rfl rfl rfl rfl rfl (mi_cal_v2 (np := 4) (args := [.ref 42, .int (Int32.ofInt 7), .int (Int32.ofInt (mi_sF σ 42 3)), .int (Int32.ofInt 0), .int (Int32.ofInt 0)]) (rest := []) rfl rfl rfl rfl rfl (Nat.le_of_ble_eq_true rfl) rfl rfl (Nat.le_of_ble_eq_true rfl) (ty_rcS S (List.mem_of_getElem? (i := 18) rfl))) (Nat.le_of_ble_eq_true rfl) S (pr26_add (σ := σ2) pw2 (by omega)) ?_
  intro x hh σ3 S f P0
  obtain ⟨e1, P3⟩ := P0
  rw [e1]
  have A3 := ps26_tr pw.2.2.2.2 A2 P3
  have pw3 := ps26_pw A3 pw (by omega)
  have g3 := ps26_7 A3
  try simp only [List.length_append, List.length_cons, List.length_nil] at g3
  replace fr := mi_Fm_tr fr f
  refine mi_wp_p (pc' := 73) (st' := []) rfl rfl rfl ?_
  exact ty_s_ret S fr rfl rfl rfl rfl ⟨rfl, ps26_eq A3 (by first | omega | (simp only [List.length_cons, List.length_append, List.length_nil]; omega)) (by first | rfl | simp only [g1.2.1, g2.2.1, g3.2.1, List.nil_append, List.append_nil, List.append_assoc, List.cons_append, Int.add_zero, Int.zero_add, Int.add_assoc])⟩
theorem fm_use_list {X : mi_X} {d : Nat} {dd : Int} {ts : List Int} {l : Int → List (Int × Int × Int)} {k1 : Int} (hk1 : k1 = 13 ∨ k1 = 15 ∨ k1 = 40) (hP : FS X (d + 4) mi_M73 dd 3 (k1 :: ts) l) : FS X (d + 5) mi_M68 dd 2 ((13 :: k1 :: ts)) (fun p => (6, p, 0) :: (l (p + 1) ++ [(7, p, 1)])) := by
  intro σ kx pw T hlen hkx hfo hroom h S
  have fr := mi_Fm_rf h
  have A0 := ps26_rf (σ := σ)
  have pw0 := pw
  obtain ⟨q1, q2, q3, q4, q5⟩ := pw0
  obtain ⟨fo1, fo2, fo3, fo4⟩ := hfo
  try simp only [List.length_cons, List.length_append, List.length_nil] at hlen
  try simp only [List.length_cons, List.length_append, List.length_nil] at hroom
  obtain ⟨t0, T1⟩ := tq_cons T
  obtain ⟨t1, -⟩ := tq_cons T1
  have t1' : mi_sA σ 5 (mi_sF σ 42 3 + 1) = k1 := by rw [← t1]; congr 1; omega
  refine mi_wp_p (pc' := 1) (st' := [.ref 42]) rfl rfl rfl ?_
  refine ty_s_ci rfl rfl rfl rfl rfl rfl (mi_cal_v2 (np := 0) (args := [.ref 42]) (rest := []) rfl rfl rfl rfl rfl (Nat.le_of_ble_eq_true rfl) rfl rfl (Nat.le_of_ble_eq_true rfl) (ty_rcS S (List.mem_of_getElem? (i := 18) rfl))) (Nat.le_of_ble_eq_true rfl) S (pr26_kind (σ := σ) pw.1 pw.2.2.1 (by omega) pw.2.2.2.1 (ps26_k A0 t0 (by first | omega | (simp only [List.length_cons, List.length_append, List.length_nil]; omega)))) ?_
  intro x hh σu S f P
  obtain ⟨e1, e2⟩ := P
  rw [e2] at S
  rw [e1]
  clear e1 e2
  replace fr := mi_Fm_tr fr f
  refine mi_s_k (pc' := 6) (e := 13) rfl rfl rfl (by decide +kernel) ?_
  refine mi_s_if2 (t := 15) rfl rfl rfl (by unfold mi_R; omega) (by unfold mi_R; omega) (fun _ => ?_) (fun hc_ => absurd (show (13 : Int) = 13 by omega) hc_)
  refine mi_wp_p (pc' := 16) (st' := [.ref 42]) rfl rfl rfl ?_
  refine ty_s_gf (x := mi_sF σ 42 3) S rfl rfl rfl (List.mem_of_getElem? (i := 18) rfl) rfl ?_
  refine mi_wp_p (pc' := 20) (l' := [(2, .int (Int32.ofInt (mi_sF σ 42 3))), (0, .ref 42), (1, .int (Int32.ofInt dd))]) (st' := []) rfl rfl rfl ?_
  refine mi_wp_p (pc' := 21) (st' := [.ref 42]) rfl rfl rfl ?_
  refine mi_s_k (pc' := 23) (e := 6) rfl rfl rfl (by decide +kernel) ?_
  refine mi_wp_p (pc' := 24) (st' := [.int (Int32.ofInt (mi_sF σ 42 3)), .int (Int32.ofInt 6), .ref 42]) rfl rfl rfl ?_
  refine mi_wp_p (pc' := 25) (st' := [.int (Int32.ofInt 0), .int (Int32.ofInt (mi_sF σ 42 3)), .int (Int32.ofInt 6), .ref 42]) rfl rfl rfl ?_
  refine mi_wp_p (pc' := 26) (st' := [.int (Int32.ofInt 0), .int (Int32.ofInt 0), .int (Int32.ofInt (mi_sF σ 42 3)), .int (Int32.ofInt 6), .ref 42]) rfl rfl rfl ?_
  refine ty_s_ci rfl rfl rfl rfl rfl rfl (mi_cal_v2 (np := 4) (args := [.ref 42, .int (Int32.ofInt 6), .int (Int32.ofInt (mi_sF σ 42 3)), .int (Int32.ofInt 0), .int (Int32.ofInt 0)]) (rest := []) rfl rfl rfl rfl rfl (Nat.le_of_ble_eq_true rfl) rfl rfl (Nat.le_of_ble_eq_true rfl) (ty_rcS S (List.mem_of_getElem? (i := 18) rfl))) (Nat.le_of_ble_eq_true rfl) S (pr26_add (σ := σ) pw (by omega)) ?_
  intro x hh σ1 S f P0
  obtain ⟨e1, P1⟩ := P0
  rw [e1]
  have A1 := ps26_tr pw.2.2.2.2 A0 P1
  have pw1 := ps26_pw A1 pw (by omega)
  have g1 := ps26_7 A1
  try simp only [List.length_append, List.length_cons, List.length_nil] at g1
  replace fr := mi_Fm_tr fr f
  refine mi_wp_p (pc' := 30) (st' := []) rfl rfl rfl ?_
  refine mi_wp_p (pc' := 31) (st' := [.ref 42]) rfl rfl rfl ?_
  refine mi_s_k (pc' := 33) (e := 13) rfl rfl rfl (by decide +kernel) ?_
  refine ty_s_cv rfl rfl rfl rfl rfl rfl (mi_cal_v2 (np := 1) (args := [.ref 42, .int (Int32.ofInt 13)]) (rest := []) rfl rfl rfl rfl rfl (Nat.le_of_ble_eq_true rfl) rfl rfl (Nat.le_of_ble_eq_true rfl) (ty_rcS S (List.mem_of_getElem? (i := 18) rfl))) (Nat.le_of_ble_eq_true rfl) S (pr26_take (σ := σ1) pw1.1 pw1.2.2.1 (by omega) pw1.2.2.2.1 (ps26_k A1 t0 (by first | omega | (simp only [List.length_cons, List.length_append, List.length_nil]; omega))) (by omega)) ?_
  intro hh σ2 S f P2
  have A2 := ps26_tr pw.2.2.2.2 A1 P2
  have pw2 := ps26_pw A2 pw (by omega)
  have g2 := ps26_7 A2
  try simp only [List.length_append, List.length_cons, List.length_nil] at g2
  replace fr := mi_Fm_tr fr f
  refine mi_wp_p (pc' := 37) (st' := [.int (Int32.ofInt 0)]) rfl rfl rfl ?_
  refine mi_wp_p (pc' := 38) (l' := [(3, .int (Int32.ofInt 0)), (2, .int (Int32.ofInt (mi_sF σ 42 3))), (0, .ref 42), (1, .int (Int32.ofInt dd))]) (st' := []) rfl rfl rfl ?_
  refine mi_wp_p (pc' := 39) (st' := [.int (Int32.ofInt 0)]) rfl rfl rfl ?_
  refine mi_s_k (pc' := 42) (e := 300) rfl rfl rfl (by decide +kernel) ?_
  refine mi_s_if2 (t := 63) rfl rfl rfl (by unfold mi_R; omega) (by unfold mi_R; omega) (fun hc_ => absurd (show 300 ≤ (0 : Int) from hc_) (by omega)) (fun _ => ?_)
  refine mi_wp_p (pc' := 46) (st' := [.ref 42]) rfl rfl rfl ?_
  refine ty_s_ci rfl rfl rfl rfl rfl rfl (mi_cal_v2 (np := 0) (args := [.ref 42]) (rest := []) rfl rfl rfl rfl rfl (Nat.le_of_ble_eq_true rfl) rfl rfl (Nat.le_of_ble_eq_true rfl) (ty_rcS S (List.mem_of_getElem? (i := 18) rfl))) (Nat.le_of_ble_eq_true rfl) S (pr26_starts1 (σ := σ2) pw2.1 pw2.2.2.1 (by omega) pw2.2.2.2.1 (ps26_k A2 t1' (by first | omega | (simp only [List.length_cons, List.length_append, List.length_nil]; omega))) (by omega) (by omega)) ?_
  intro x hh σu S f P
  obtain ⟨e1, e2⟩ := P
  rw [e2] at S
  rw [e1]
  clear e1 e2
  replace fr := mi_Fm_tr fr f
  refine mi_s_if1 (t := 63) rfl rfl rfl (by unfold mi_R; omega) (fun hc_ => absurd (show (1 : Int) = 0 from hc_) (by omega)) (fun _ => ?_)
  refine mi_wp_p (pc' := 53) (st' := [.ref 42]) rfl rfl rfl ?_
  refine mi_wp_p (pc' := 54) (st' := [.int (Int32.ofInt dd), .ref 42]) rfl rfl rfl ?_
  have ep3 : mi_sF σ2 42 3 = mi_sF σ 42 3 + (1) := by omega
  have Tk3 := tq_ps (p' := mi_sF σ2 42 3) A2 T1 (by omega)
  have hn3 : mi_sA σ2 5 (mi_sF σ2 42 3 + (((k1 :: ts).length : Int))) = kx := ps26_k2 A2 hkx (by first | omega | (simp only [List.length_cons, List.length_append, List.length_nil]; omega))
  have hr3 : mi_sF σ2 26 7 + (l (mi_sF σ2 42 3)).length ≤ 1000 := by rw [ep3]; omega
  refine ty_s_cv rfl rfl rfl rfl rfl rfl (mi_cal_v2 (np := 1) (args := [.ref 42, .int (Int32.ofInt dd)]) (rest := []) rfl rfl rfl rfl rfl (Nat.le_of_ble_eq_true rfl) rfl rfl (Nat.le_of_ble_eq_true rfl) (ty_rcS S (List.mem_of_getElem? (i := 18) rfl))) (Nat.le_of_ble_eq_true rfl) S (hP σ2 kx pw2 Tk3 (by first | omega | (simp only [List.length_cons, List.length_append, List.length_nil]; omega)) hn3 ⟨fo1, fo2, fun q => by first | exact fo3 (by decide) | exact absurd q (by decide), fun q => by first | exact fo4 (by decide) | exact absurd q (by decide)⟩ hr3) ?_
  intro hh σ3 S f P3
  rw [ep3] at P3
  have A3 := ps26_tr pw.2.2.2.2 A2 P3
  have pw3 := ps26_pw A3 pw (by omega)
  have g3 := ps26_7 A3
  try simp only [List.length_append, List.length_cons, List.length_nil] at g3
  replace fr := mi_Fm_tr fr f
  refine mi_s_inc (l' := [(3, .int (Int32.ofInt (0 + 1))), (2, .int (Int32.ofInt (mi_sF σ 42 3))), (0, .ref 42), (1, .int (Int32.ofInt dd))]) rfl rfl rfl (by decide) rfl ?_
  refine mi_wp_p (pc' := 38) rfl rfl rfl ?_
  refine mi_wp_p (pc' := 39) (st' := [.int (Int32.ofInt (0 + 1))]) rfl rfl rfl ?_
  refine mi_s_k (pc' := 42) (e := 300) rfl rfl rfl (by decide +kernel) ?_
  refine mi_s_if2 (t := 63) rfl rfl rfl (by unfold mi_R; omega) (by unfold mi_R; omega) (fun hc_ => absurd (show 300 ≤ ((0 + 1) : Int) from hc_) (by omega)) (fun _ => ?_)
  refine mi_wp_p (pc' := 46) (st' := [.ref 42]) rfl rfl rfl ?_
  refine ty_s_ci rfl rfl rfl rfl rfl rfl (mi_cal_v2 (np := 0) (args := [.ref 42]) (rest := []) rfl rfl rfl rfl rfl (Nat.le_of_ble_eq_true rfl) rfl rfl (Nat.le_of_ble_eq_true rfl) (ty_rcS S (List.mem_of_getElem? (i := 18) rfl))) (Nat.le_of_ble_eq_true rfl) S (pr26_starts0 (σ := σ3) pw3.1 pw3.2.2.1 (by omega) pw3.2.2.2.1 (ps26_k A3 hkx (by first | omega | (simp only [List.length_cons, List.length_append, List.length_nil]; omega))) (by omega) (by omega)) ?_
  intro x hh σu S f P
  obtain ⟨e1, e2⟩ := P
  rw [e2] at S
  rw [e1]
  clear e1 e2
  replace fr := mi_Fm_tr fr f
  refine mi_s_if1 (t := 63) rfl rfl rfl (by unfold mi_R; omega) (fun _ => ?_) (fun hc_ => absurd (show (0 : Int) = 0 by omega) hc_)
  refine mi_wp_p (pc' := 64) (st' := [.ref 42]) rfl rfl rfl ?_
  refine mi_s_k (pc' := 66) (e := 7) rfl rfl rfl (by decide +kernel) ?_
  refine mi_wp_p (pc' := 67) (st' := [.int (Int32.ofInt (mi_sF σ 42 3)), .int (Int32.ofInt 7), .ref 42]) rfl rfl rfl ?_
  refine mi_wp_p (pc' := 68) (st' := [.int (Int32.ofInt (0 + 1)), .int (Int32.ofInt (mi_sF σ 42 3)), .int (Int32.ofInt 7), .ref 42]) rfl rfl rfl ?_
  refine mi_wp_p (pc' := 69) (st' := [.int (Int32.ofInt 0), .int (Int32.ofInt (0 + 1)), .int (Int32.ofInt (mi_sF σ 42 3)), .int (Int32.ofInt 7), .ref 42]) rfl rfl rfl ?_
  refine ty_s_ci rfl rfl rfl rfl rfl rfl (mi_cal_v2 (np := 4) (args := [.ref 42, .int (Int32.ofInt 7), .int (Int32.ofInt (mi_sF σ 42 3)), .int (Int32.ofInt (0 + 1)), .int (Int32.ofInt 0)]) (rest := []) rfl rfl rfl rfl rfl (Nat.le_of_ble_eq_true rfl) rfl rfl (Nat.le_of_ble_eq_true rfl) (ty_rcS S (List.mem_of_getElem? (i := 18) rfl))) (Nat.le_of_ble_eq_true rfl) S (pr26_add (σ := σ3) pw3 (by omega)) ?_
  intro x hh σ4 S f P0
  obtain ⟨e1, P4⟩ := P0
  rw [e1]
  have A4 := ps26_tr pw.2.2.2.2 A3 P4
  have pw4 := ps26_pw A4 pw (by omega)
  have g4 := ps26_7 A4
  try simp only [List.length_append, List.length_cons, List.length_nil] at g4
  replace fr := mi_Fm_tr fr f
  refine mi_wp_p (pc' := 73) (st' := []) rfl rfl rfl ?_
  exact ty_s_ret S fr rfl rfl rfl rfl ⟨rfl, ps26_eq A4 (by first | omega | (simp only [List.length_cons, List.length_append, List.length_nil]; omega)) (by first | rfl | simp only [g1.2.1, g2.2.1, g3.2.1, g4.2.1, List.nil_append, List.append_nil, List.append_assoc, List.cons_append, Int.add_zero, Int.zero_add, Int.add_assoc])⟩
theorem fm_pair_1 {X : mi_X} {d : Nat} {dd : Int} {ts : List Int} {l : Int → List (Int × Int × Int)} (hU : FS X (d + 5) mi_M68 dd 2 ts l) : FS X (d + 6) mi_M67 dd 1 (ts) (fun p => l p) := by
  intro σ kx pw T hlen hkx hfo hroom h S
  have fr := mi_Fm_rf h
  have A0 := ps26_rf (σ := σ)
  have pw0 := pw
  obtain ⟨q1, q2, q3, q4, q5⟩ := pw0
  obtain ⟨fo1, fo2, fo3, fo4⟩ := hfo
  try simp only [List.length_cons, List.length_append, List.length_nil] at hlen
  try simp only [List.length_cons, List.length_append, List.length_nil] at hroom
  have T0 := T
  rw [show mi_sF σ 42 3 = mi_sF σ 42 3 + 0 by omega] at hroom
  refine mi_wp_p (pc' := 1) (st' := [.ref 42]) rfl rfl rfl ?_
  refine mi_wp_p (pc' := 2) (st' := [.int (Int32.ofInt dd), .ref 42]) rfl rfl rfl ?_
  have ep1 : mi_sF σ 42 3 = mi_sF σ 42 3 + (0) := by omega
  have Tk1 := tq_ps (p' := mi_sF σ 42 3) A0 T0 (by omega)
  have hn1 : mi_sA σ 5 (mi_sF σ 42 3 + ((ts.length : Int))) = kx := ps26_k2 A0 hkx (by first | omega | (simp only [List.length_cons, List.length_append, List.length_nil]; omega))
  have hr1 : mi_sF σ 26 7 + (l (mi_sF σ 42 3)).length ≤ 1000 := by rw [ep1]; omega
  refine ty_s_cv rfl rfl rfl rfl rfl rfl (mi_cal_v2 (np := 1) (args := [.ref 42, .int (Int32.ofInt dd)]) (rest := []) rfl rfl rfl rfl rfl (Nat.le_of_ble_eq_true rfl) rfl rfl (Nat.le_of_ble_eq_true rfl) (ty_rcS S (List.mem_of_getElem? (i := 18) rfl))) (Nat.le_of_ble_eq_true rfl) S (hU σ kx pw Tk1 (by first | omega | (simp only [List.length_cons, List.length_append, List.length_nil]; omega)) hn1 ⟨fo1, fo2, fun q => by first | exact fo3 (by decide) | exact absurd q (by decide), fun q => by first | exact fo4 (by decide) | exact absurd q (by decide)⟩ hr1) ?_
  intro hh σ1 S f P1
  rw [ep1] at P1
  have A1 := ps26_tr pw.2.2.2.2 A0 P1
  have pw1 := ps26_pw A1 pw (by omega)
  have g1 := ps26_7 A1
  try simp only [List.length_append, List.length_cons, List.length_nil] at g1
  replace fr := mi_Fm_tr fr f
  refine mi_wp_p (pc' := 6) (st' := [.ref 42]) rfl rfl rfl ?_
  refine ty_s_ci rfl rfl rfl rfl rfl rfl (mi_cal_v2 (np := 0) (args := [.ref 42]) (rest := []) rfl rfl rfl rfl rfl (Nat.le_of_ble_eq_true rfl) rfl rfl (Nat.le_of_ble_eq_true rfl) (ty_rcS S (List.mem_of_getElem? (i := 18) rfl))) (Nat.le_of_ble_eq_true rfl) S (pr26_kind (σ := σ1) pw1.1 pw1.2.2.1 (by omega) pw1.2.2.2.1 (ps26_k A1 hkx (by first | omega | (simp only [List.length_cons, List.length_append, List.length_nil]; omega)))) ?_
  intro x hh σu S f P
  obtain ⟨e1, e2⟩ := P
  rw [e2] at S
  rw [e1]
  clear e1 e2
  replace fr := mi_Fm_tr fr f
  refine mi_s_k (pc' := 11) (e := 42) rfl rfl rfl (by decide +kernel) ?_
  refine mi_s_if2 (t := 35) rfl rfl rfl (by unfold mi_R; omega) (by unfold mi_R; omega) (fun _ => ?_) (fun hc_ => absurd (show kx ≠ 42 by omega) hc_)
  exact ty_s_ret S fr rfl rfl rfl rfl ⟨rfl, ps26_eq A1 (by first | omega | (simp only [List.length_cons, List.length_append, List.length_nil]; omega)) (by first | rfl | simp only [g1.2.1, List.nil_append, List.append_nil, List.append_assoc, List.cons_append, Int.add_zero, Int.zero_add, Int.add_assoc])⟩
theorem fm_pair_2 {X : mi_X} {d : Nat} {dd : Int} {ts : List Int} {l : Int → List (Int × Int × Int)} {ts' : List Int} {l' : Int → List (Int × Int × Int)} (hU : FS X (d + 5) mi_M68 dd 2 ts l) (hU' : FS X (d + 5) mi_M68 dd 2 ts' l') : FS X (d + 6) mi_M67 dd 1 ((ts ++ 42 :: ts')) (fun p => l p ++ (l' (p + ts.length + 1) ++ [(8, 0, 0)])) := by
  intro σ kx pw T hlen hkx hfo hroom h S
  have fr := mi_Fm_rf h
  have A0 := ps26_rf (σ := σ)
  have pw0 := pw
  obtain ⟨q1, q2, q3, q4, q5⟩ := pw0
  obtain ⟨fo1, fo2, fo3, fo4⟩ := hfo
  try simp only [List.length_cons, List.length_append, List.length_nil] at hlen
  try simp only [List.length_cons, List.length_append, List.length_nil] at hroom
  obtain ⟨Ta, Tb⟩ := tq_app T
  obtain ⟨t1, Tc⟩ := tq_cons Tb
  have t1' : mi_sA σ 5 (mi_sF σ 42 3 + ts.length) = 42 := by rw [← t1]; congr 1; omega
  rw [show mi_sF σ 42 3 + ts.length + 1 = mi_sF σ 42 3 + (ts.length + 1) by omega] at hroom Tc
  rw [show l (mi_sF σ 42 3) = l (mi_sF σ 42 3 + 0) by rw [Int.add_zero]] at hroom
  refine mi_wp_p (pc' := 1) (st' := [.ref 42]) rfl rfl rfl ?_
  refine mi_wp_p (pc' := 2) (st' := [.int (Int32.ofInt dd), .ref 42]) rfl rfl rfl ?_
  have ep1 : mi_sF σ 42 3 = mi_sF σ 42 3 + (0) := by omega
  have Tk1 := tq_ps (p' := mi_sF σ 42 3) A0 Ta (by omega)
  have hn1 : mi_sA σ 5 (mi_sF σ 42 3 + ((ts.length : Int))) = 42 := ps26_k2 A0 t1' (by first | omega | (simp only [List.length_cons, List.length_append, List.length_nil]; omega))
  have hr1 : mi_sF σ 26 7 + (l (mi_sF σ 42 3)).length ≤ 1000 := by rw [ep1]; omega
  refine ty_s_cv rfl rfl rfl rfl rfl rfl (mi_cal_v2 (np := 1) (args := [.ref 42, .int (Int32.ofInt dd)]) (rest := []) rfl rfl rfl rfl rfl (Nat.le_of_ble_eq_true rfl) rfl rfl (Nat.le_of_ble_eq_true rfl) (ty_rcS S (List.mem_of_getElem? (i := 18) rfl))) (Nat.le_of_ble_eq_true rfl) S (hU σ 42 pw Tk1 (by first | omega | (simp only [List.length_cons, List.length_append, List.length_nil]; omega)) hn1 (by unfold fo; omega) hr1) ?_
  intro hh σ1 S f P1
  rw [ep1] at P1
  have A1 := ps26_tr pw.2.2.2.2 A0 P1
  have pw1 := ps26_pw A1 pw (by omega)
  have g1 := ps26_7 A1
  try simp only [List.length_append, List.length_cons, List.length_nil] at g1
  replace fr := mi_Fm_tr fr f
  refine mi_wp_p (pc' := 6) (st' := [.ref 42]) rfl rfl rfl ?_
  refine ty_s_ci rfl rfl rfl rfl rfl rfl (mi_cal_v2 (np := 0) (args := [.ref 42]) (rest := []) rfl rfl rfl rfl rfl (Nat.le_of_ble_eq_true rfl) rfl rfl (Nat.le_of_ble_eq_true rfl) (ty_rcS S (List.mem_of_getElem? (i := 18) rfl))) (Nat.le_of_ble_eq_true rfl) S (pr26_kind (σ := σ1) pw1.1 pw1.2.2.1 (by omega) pw1.2.2.2.1 (ps26_k A1 t1' (by first | omega | (simp only [List.length_cons, List.length_append, List.length_nil]; omega)))) ?_
  intro x hh σu S f P
  obtain ⟨e1, e2⟩ := P
  rw [e2] at S
  rw [e1]
  clear e1 e2
  replace fr := mi_Fm_tr fr f
  refine mi_s_k (pc' := 11) (e := 42) rfl rfl rfl (by decide +kernel) ?_
  refine mi_s_if2 (t := 35) rfl rfl rfl (by unfold mi_R; omega) (by unfold mi_R; omega) (fun hc_ => absurd (show (42 : Int) ≠ 42 from hc_) (by omega)) (fun _ => ?_)
  refine mi_wp_p (pc' := 15) (st' := [.ref 42]) rfl rfl rfl ?_
  refine mi_s_k (pc' := 17) (e := 42) rfl rfl rfl (by decide +kernel) ?_
  refine ty_s_cv rfl rfl rfl rfl rfl rfl (mi_cal_v2 (np := 1) (args := [.ref 42, .int (Int32.ofInt 42)]) (rest := []) rfl rfl rfl rfl rfl (Nat.le_of_ble_eq_true rfl) rfl rfl (Nat.le_of_ble_eq_true rfl) (ty_rcS S (List.mem_of_getElem? (i := 18) rfl))) (Nat.le_of_ble_eq_true rfl) S (pr26_take (σ := σ1) pw1.1 pw1.2.2.1 (by omega) pw1.2.2.2.1 (ps26_k A1 t1' (by first | omega | (simp only [List.length_cons, List.length_append, List.length_nil]; omega))) (by omega)) ?_
  intro hh σ2 S f P2
  have A2 := ps26_tr pw.2.2.2.2 A1 P2
  have pw2 := ps26_pw A2 pw (by omega)
  have g2 := ps26_7 A2
  try simp only [List.length_append, List.length_cons, List.length_nil] at g2
  replace fr := mi_Fm_tr fr f
  refine mi_wp_p (pc' := 21) (st' := [.ref 42]) rfl rfl rfl ?_
  refine mi_wp_p (pc' := 22) (st' := [.int (Int32.ofInt dd), .ref 42]) rfl rfl rfl ?_
  have ep3 : mi_sF σ2 42 3 = mi_sF σ 42 3 + ((ts.length + 1)) := by omega
  have Tk3 := tq_ps (p' := mi_sF σ2 42 3) A2 Tc (by omega)
  have hn3 : mi_sA σ2 5 (mi_sF σ2 42 3 + ((ts'.length : Int))) = kx := ps26_k2 A2 hkx (by first | omega | (simp only [List.length_cons, List.length_append, List.length_nil]; omega))
  have hr3 : mi_sF σ2 26 7 + (l' (mi_sF σ2 42 3)).length ≤ 1000 := by rw [ep3]; omega
  refine ty_s_cv rfl rfl rfl rfl rfl rfl (mi_cal_v2 (np := 1) (args := [.ref 42, .int (Int32.ofInt dd)]) (rest := []) rfl rfl rfl rfl rfl (Nat.le_of_ble_eq_true rfl) rfl rfl (Nat.le_of_ble_eq_true rfl) (ty_rcS S (List.mem_of_getElem? (i := 18) rfl))) (Nat.le_of_ble_eq_true rfl) S (hU' σ2 kx pw2 Tk3 (by first | omega | (simp only [List.length_cons, List.length_append, List.length_nil]; omega)) hn3 ⟨fo1, fo2, fun q => by first | exact fo3 (by decide) | exact absurd q (by decide), fun q => by first | exact fo4 (by decide) | exact absurd q (by decide)⟩ hr3) ?_
  intro hh σ3 S f P3
  rw [ep3] at P3
  have A3 := ps26_tr pw.2.2.2.2 A2 P3
  have pw3 := ps26_pw A3 pw (by omega)
  have g3 := ps26_7 A3
  try simp only [List.length_append, List.length_cons, List.length_nil] at g3
  replace fr := mi_Fm_tr fr f
  refine mi_wp_p (pc' := 26) (st' := [.ref 42]) rfl rfl rfl ?_
  refine mi_s_k (pc' := 28) (e := 8) rfl rfl rfl (by decide +kernel) ?_
  refine mi_wp_p (pc' := 29) (st' := [.int (Int32.ofInt 0), .int (Int32.ofInt 8), .ref 42]) rfl rfl rfl ?_
  refine mi_wp_p (pc' := 30) (st' := [.int (Int32.ofInt 0), .int (Int32.ofInt 0), .int (Int32.ofInt 8), .ref 42]) rfl rfl rfl ?_
  refine mi_wp_p (pc' := 31) (st' := [.int (Int32.ofInt 0), .int (Int32.ofInt 0), .int (Int32.ofInt 0), .int (Int32.ofInt 8), .ref 42]) rfl rfl rfl ?_
  refine ty_s_ci rfl rfl rfl rfl rfl rfl (mi_cal_v2 (np := 4) (args := [.ref 42, .int (Int32.ofInt 8), .int (Int32.ofInt 0), .int (Int32.ofInt 0), .int (Int32.ofInt 0)]) (rest := []) rfl rfl rfl rfl rfl (Nat.le_of_ble_eq_true rfl) rfl rfl (Nat.le_of_ble_eq_true rfl) (ty_rcS S (List.mem_of_getElem? (i := 18) rfl))) (Nat.le_of_ble_eq_true rfl) S (pr26_add (σ := σ3) pw3 (by omega)) ?_
  intro x hh σ4 S f P0
  obtain ⟨e1, P4⟩ := P0
  rw [e1]
  have A4 := ps26_tr pw.2.2.2.2 A3 P4
  have pw4 := ps26_pw A4 pw (by omega)
  have g4 := ps26_7 A4
  try simp only [List.length_append, List.length_cons, List.length_nil] at g4
  replace fr := mi_Fm_tr fr f
  refine mi_wp_p (pc' := 35) (st' := []) rfl rfl rfl ?_
  exact ty_s_ret S fr rfl rfl rfl rfl ⟨rfl, ps26_eq A4 (by first | omega | (simp only [List.length_cons, List.length_append, List.length_nil]; omega)) (by first | rfl | simp only [g1.2.1, g2.2.1, g3.2.1, g4.2.1, List.nil_append, List.append_nil, List.append_assoc, List.cons_append, Int.add_zero, Int.zero_add, Int.add_assoc])⟩
/-- form from its loop on, with n arrows behind it -/
def FLP (X : mi_X) (d : Nat) (dd n : Int) (ts : List Int) (l : Int → List (Int × Int × Int)) : Prop := ∀ (σ : mi_Sg) (kx : Int), pw26 σ → tq σ (mi_sF σ 42 3) ts → mi_sF σ 42 3 + ts.length < mi_sF σ 3 7 → mi_sA σ 5 (mi_sF σ 42 3 + ts.length) = kx → fo 0 kx → mi_sF σ 26 7 + (l (mi_sF σ 42 3)).length ≤ 1000 → ∀ h h0, ty_H h σ → mi_Fm h0 h → mi_wp X (d + 7) mi_M66 18 [(2, .int (Int32.ofInt n)), (0, .ref 42), (1, .int (Int32.ofInt dd))] [] h 0 0 (fun z => ∃ v h' σ', z = (.inl v, h', 0, 0) ∧ ty_H h' σ' ∧ mi_Fm h0 h' ∧ v = none ∧ ps26_Q σ σ' ts.length (l (mi_sF σ 42 3)))
theorem fl_nil {X : mi_X} {d : Nat} {dd n : Int}  (hn0 : 0 ≤ n) (hn1 : n < 290)  : FLP X d dd n [] (fun p => [(9, n, 0)]) := by
  intro σ kx pw T hlen hkx hfo hroom h h0 S fr
  have A0 := ps26_rf (σ := σ)
  have pw0 := pw
  obtain ⟨q1, q2, q3, q4, q5⟩ := pw0
  obtain ⟨fo1, fo2, fo3, fo4⟩ := hfo
  try simp only [List.length_cons, List.length_append, List.length_nil] at hlen
  try simp only [List.length_cons, List.length_append, List.length_nil] at hroom
  refine mi_wp_p (pc' := 19) (st' := [.int (Int32.ofInt n)]) rfl rfl rfl ?_
  refine mi_s_k (pc' := 22) (e := 300) rfl rfl rfl (by decide +kernel) ?_
  refine mi_s_if2 (t := 51) rfl rfl rfl (by unfold mi_R; omega) (by unfold mi_R; omega) (fun hc_ => absurd (show 300 ≤ n from hc_) (by omega)) (fun _ => ?_)
  refine mi_wp_p (pc' := 26) (st' := [.ref 42]) rfl rfl rfl ?_
  refine ty_s_ci rfl rfl rfl rfl rfl rfl (mi_cal_v2 (np := 0) (args := [.ref 42]) (rest := []) rfl rfl rfl rfl rfl (Nat.le_of_ble_eq_true rfl) rfl rfl (Nat.le_of_ble_eq_true rfl) (ty_rcS S (List.mem_of_getElem? (i := 18) rfl))) (Nat.le_of_ble_eq_true rfl) S (pr26_kind (σ := σ) pw.1 pw.2.2.1 (by omega) pw.2.2.2.1 (ps26_k A0 hkx (by first | omega | (simp only [List.length_cons, List.length_append, List.length_nil]; omega)))) ?_
  intro x hh σu S f P
  obtain ⟨e1, e2⟩ := P
  rw [e2] at S
  rw [e1]
  clear e1 e2
  replace fr := mi_Fm_tr fr f
  refine mi_s_k (pc' := 31) (e := 17) rfl rfl rfl (by decide +kernel) ?_
  refine mi_s_if2 (t := 51) rfl rfl rfl (by unfold mi_R; omega) (by unfold mi_R; omega) (fun _ => ?_) (fun hc_ => absurd (show kx ≠ 17 by omega) hc_)
  refine mi_wp_p (pc' := 52) (st' := [.ref 42]) rfl rfl rfl ?_
  refine mi_s_k (pc' := 54) (e := 9) rfl rfl rfl (by decide +kernel) ?_
  refine mi_wp_p (pc' := 55) (st' := [.int (Int32.ofInt n), .int (Int32.ofInt 9), .ref 42]) rfl rfl rfl ?_
  refine mi_wp_p (pc' := 56) (st' := [.int (Int32.ofInt 0), .int (Int32.ofInt n), .int (Int32.ofInt 9), .ref 42]) rfl rfl rfl ?_
  refine mi_wp_p (pc' := 57) (st' := [.int (Int32.ofInt 0), .int (Int32.ofInt 0), .int (Int32.ofInt n), .int (Int32.ofInt 9), .ref 42]) rfl rfl rfl ?_
  refine ty_s_ci rfl rfl rfl rfl rfl rfl (mi_cal_v2 (np := 4) (args := [.ref 42, .int (Int32.ofInt 9), .int (Int32.ofInt n), .int (Int32.ofInt 0), .int (Int32.ofInt 0)]) (rest := []) rfl rfl rfl rfl rfl (Nat.le_of_ble_eq_true rfl) rfl rfl (Nat.le_of_ble_eq_true rfl) (ty_rcS S (List.mem_of_getElem? (i := 18) rfl))) (Nat.le_of_ble_eq_true rfl) S (pr26_add (σ := σ) pw (by omega)) ?_
  intro x hh σ1 S f P0
  obtain ⟨e1, P1⟩ := P0
  rw [e1]
  have A1 := ps26_tr pw.2.2.2.2 A0 P1
  have pw1 := ps26_pw A1 pw (by omega)
  have g1 := ps26_7 A1
  try simp only [List.length_append, List.length_cons, List.length_nil] at g1
  replace fr := mi_Fm_tr fr f
  refine mi_wp_p (pc' := 61) (st' := []) rfl rfl rfl ?_
  exact ty_s_ret S fr rfl rfl rfl rfl ⟨rfl, ps26_eq A1 (by first | omega | (simp only [List.length_cons, List.length_append, List.length_nil]; omega)) (by first | rfl | simp only [List.nil_append, List.append_nil])⟩
theorem fl_cons {X : mi_X} {d : Nat} {dd n : Int} {ts : List Int} {l : Int → List (Int × Int × Int)} {ts' : List Int} {l' : Int → List (Int × Int × Int)} (hn0 : 0 ≤ n) (hn1 : n < 290) (hP : FS X (d + 6) mi_M67 dd 1 ts l) (hR : FLP X d dd (n + 1) ts' l') (hts : ts' = [] ∨ ∃ r, ts' = 17 :: r) : FLP X d dd n (17 :: (ts ++ ts')) (fun p => l (p + 1) ++ l' (p + (1 + ts.length))) := by
  intro σ kx pw T hlen hkx hfo hroom h h0 S fr
  have A0 := ps26_rf (σ := σ)
  have pw0 := pw
  obtain ⟨q1, q2, q3, q4, q5⟩ := pw0
  obtain ⟨fo1, fo2, fo3, fo4⟩ := hfo
  try simp only [List.length_cons, List.length_append, List.length_nil] at hlen
  try simp only [List.length_cons, List.length_append, List.length_nil] at hroom
  obtain ⟨t0, T1⟩ := tq_cons T
  obtain ⟨Ta, Tb⟩ := tq_app T1
  rw [show mi_sF σ 42 3 + 1 + (ts.length : Int) = mi_sF σ 42 3 + (1 + ts.length) by omega] at Tb
  have hkn0 : ∃ kn, mi_sA σ 5 (mi_sF σ 42 3 + (1 + ts.length)) = kn ∧ fo 1 kn := by
    rcases hts with e | ⟨r, e⟩
    · subst e
      refine ⟨kx, ?_, ⟨fo1, fo2, fun _ => fo3 (by decide), fun q => absurd q (by decide)⟩⟩
      rw [← hkx]
      congr 1
      simp only [List.length_cons, List.length_append, List.length_nil]
      omega
    · subst e
      obtain ⟨t2, -⟩ := tq_cons Tb
      refine ⟨17, ?_, by unfold fo; omega⟩
      rw [← t2, Int.add_zero]
  obtain ⟨kn, hkn, fon⟩ := hkn0
  refine mi_wp_p (pc' := 19) (st' := [.int (Int32.ofInt n)]) rfl rfl rfl ?_
  refine mi_s_k (pc' := 22) (e := 300) rfl rfl rfl (by decide +kernel) ?_
  refine mi_s_if2 (t := 51) rfl rfl rfl (by unfold mi_R; omega) (by unfold mi_R; omega) (fun hc_ => absurd (show 300 ≤ n from hc_) (by omega)) (fun _ => ?_)
  refine mi_wp_p (pc' := 26) (st' := [.ref 42]) rfl rfl rfl ?_
  refine ty_s_ci rfl rfl rfl rfl rfl rfl (mi_cal_v2 (np := 0) (args := [.ref 42]) (rest := []) rfl rfl rfl rfl rfl (Nat.le_of_ble_eq_true rfl) rfl rfl (Nat.le_of_ble_eq_true rfl) (ty_rcS S (List.mem_of_getElem? (i := 18) rfl))) (Nat.le_of_ble_eq_true rfl) S (pr26_kind (σ := σ) pw.1 pw.2.2.1 (by omega) pw.2.2.2.1 (ps26_k A0 t0 (by first | omega | (simp only [List.length_cons, List.length_append, List.length_nil]; omega)))) ?_
  intro x hh σu S f P
  obtain ⟨e1, e2⟩ := P
  rw [e2] at S
  rw [e1]
  clear e1 e2
  replace fr := mi_Fm_tr fr f
  refine mi_s_k (pc' := 31) (e := 17) rfl rfl rfl (by decide +kernel) ?_
  refine mi_s_if2 (t := 51) rfl rfl rfl (by unfold mi_R; omega) (by unfold mi_R; omega) (fun hc_ => absurd (show (17 : Int) ≠ 17 from hc_) (by omega)) (fun _ => ?_)
  refine mi_wp_p (pc' := 35) (st' := [.ref 42]) rfl rfl rfl ?_
  refine mi_s_k (pc' := 37) (e := 17) rfl rfl rfl (by decide +kernel) ?_
  refine ty_s_cv rfl rfl rfl rfl rfl rfl (mi_cal_v2 (np := 1) (args := [.ref 42, .int (Int32.ofInt 17)]) (rest := []) rfl rfl rfl rfl rfl (Nat.le_of_ble_eq_true rfl) rfl rfl (Nat.le_of_ble_eq_true rfl) (ty_rcS S (List.mem_of_getElem? (i := 18) rfl))) (Nat.le_of_ble_eq_true rfl) S (pr26_take (σ := σ) pw.1 pw.2.2.1 (by omega) pw.2.2.2.1 (ps26_k A0 t0 (by first | omega | (simp only [List.length_cons, List.length_append, List.length_nil]; omega))) (by omega)) ?_
  intro hh σ1 S f P1
  have A1 := ps26_tr pw.2.2.2.2 A0 P1
  have pw1 := ps26_pw A1 pw (by omega)
  have g1 := ps26_7 A1
  try simp only [List.length_append, List.length_cons, List.length_nil] at g1
  replace fr := mi_Fm_tr fr f
  refine mi_wp_p (pc' := 41) (st' := [.ref 42]) rfl rfl rfl ?_
  refine mi_wp_p (pc' := 42) (st' := [.int (Int32.ofInt dd), .ref 42]) rfl rfl rfl ?_
  have ep2 : mi_sF σ1 42 3 = mi_sF σ 42 3 + (1) := by omega
  have Tk2 := tq_ps (p' := mi_sF σ1 42 3) A1 Ta (by omega)
  have hn2 : mi_sA σ1 5 (mi_sF σ1 42 3 + ((ts.length : Int))) = kn := ps26_k2 A1 hkn (by first | omega | (simp only [List.length_cons, List.length_append, List.length_nil]; omega))
  have hr2 : mi_sF σ1 26 7 + (l (mi_sF σ1 42 3)).length ≤ 1000 := by rw [ep2]; omega
  refine ty_s_cv rfl rfl rfl rfl rfl rfl (mi_cal_v2 (np := 1) (args := [.ref 42, .int (Int32.ofInt dd)]) (rest := []) rfl rfl rfl rfl rfl (Nat.le_of_ble_eq_true rfl) rfl rfl (Nat.le_of_ble_eq_true rfl) (ty_rcS S (List.mem_of_getElem? (i := 18) rfl))) (Nat.le_of_ble_eq_true rfl) S (hP σ1 kn pw1 Tk2 (by first | omega | (simp only [List.length_cons, List.length_append, List.length_nil]; omega)) hn2 fon hr2) ?_
  intro hh σ2 S f P2
  rw [ep2] at P2
  have A2 := ps26_tr pw.2.2.2.2 A1 P2
  have pw2 := ps26_pw A2 pw (by omega)
  have g2 := ps26_7 A2
  try simp only [List.length_append, List.length_cons, List.length_nil] at g2
  replace fr := mi_Fm_tr fr f
  refine mi_s_inc (l' := [(2, .int (Int32.ofInt (n + 1))), (0, .ref 42), (1, .int (Int32.ofInt dd))]) rfl rfl rfl (by decide) rfl ?_
  refine mi_wp_p (pc' := 18) rfl rfl rfl ?_
  refine mi_wp_lw (l := [(2, .int (Int32.ofInt (n + 1))), (0, .ref 42), (1, .int (Int32.ofInt dd))]) (mi_lw_of (show List.Nodup [2, 0, 1] by decide) ⟨rfl, rfl, rfl, trivial⟩) ?_
  have ep : mi_sF σ2 42 3 = mi_sF σ 42 3 + (1 + ts.length) := by omega
  have hn3 : mi_sA σ2 5 (mi_sF σ2 42 3 + (ts'.length : Int)) = kx := ps26_k2 A2 hkx (by first | omega | (simp only [List.length_cons, List.length_append, List.length_nil]; omega))
  have hr3 : mi_sF σ2 26 7 + (l' (mi_sF σ2 42 3)).length ≤ 1000 := by rw [ep]; omega
  refine mi_wp_q (hR σ2 kx pw2 (tq_ps A2 Tb (by omega)) (by omega) hn3 ⟨fo1, fo2, fo3, fo4⟩ hr3 _ _ S fr) (fun z hz => ?_)
  obtain ⟨v, h', σ', a1, a2, a3, a4, a5⟩ := hz
  rw [ep] at a5
  exact ⟨v, h', σ', a1, a2, a3, a4, ps26_eq (ps26_tr pw.2.2.2.2 A2 a5) (by first | omega | (simp only [List.length_cons, List.length_append, List.length_nil]; omega)) (by simp only [List.nil_append, List.append_nil, Int.add_assoc])⟩
theorem fm_form {X : mi_X} {d : Nat} {dd : Int} {ts : List Int} {l : Int → List (Int × Int × Int)} {ts' : List Int} {l' : Int → List (Int × Int × Int)} (hdd : 0 ≤ dd ∧ dd ≤ 12) (hP : FS X (d + 6) mi_M67 dd 1 ts l) (hR : FLP X d dd 0 ts' l') (hts : ts' = [] ∨ ∃ r, ts' = 17 :: r) : FS X (d + 7) mi_M66 dd 0 (ts ++ ts') (fun p => l p ++ l' (p + ts.length)) := by
  intro σ kx pw T hlen hkx hfo hroom h S
  have fr := mi_Fm_rf h
  have A0 := ps26_rf (σ := σ)
  have pw0 := pw
  obtain ⟨q1, q2, q3, q4, q5⟩ := pw0
  obtain ⟨fo1, fo2, fo3, fo4⟩ := hfo
  try simp only [List.length_cons, List.length_append, List.length_nil] at hlen
  try simp only [List.length_cons, List.length_append, List.length_nil] at hroom
  obtain ⟨Ta, Tb⟩ := tq_app T
  have hkn0 : ∃ kn, mi_sA σ 5 (mi_sF σ 42 3 + (ts.length : Int)) = kn ∧ fo 1 kn := by
    rcases hts with e | ⟨r, e⟩
    · subst e
      refine ⟨kx, ?_, ⟨fo1, fo2, fun _ => fo3 (by decide), fun q => absurd q (by decide)⟩⟩
      rw [← hkx]
      congr 1
      simp only [List.length_append, List.length_nil]
      omega
    · subst e
      obtain ⟨t2, -⟩ := tq_cons Tb
      refine ⟨17, ?_, by unfold fo; omega⟩
      rw [← t2, Int.add_zero]
  obtain ⟨kn, hkn, fon⟩ := hkn0
  rw [show l (mi_sF σ 42 3) = l (mi_sF σ 42 3 + 0) by rw [Int.add_zero]] at hroom
  refine mi_wp_p (pc' := 1) (st' := [.int (Int32.ofInt dd)]) rfl rfl rfl ?_
  refine mi_s_k (pc' := 3) (e := 12) rfl rfl rfl (by decide +kernel) ?_
  refine mi_s_if2 (t := 11) rfl rfl rfl (by unfold mi_R; omega) (by unfold mi_R; omega) (fun _ => ?_) (fun hc_ => absurd (show dd ≤ 12 by omega) hc_)
  refine mi_wp_p (pc' := 12) (st' := [.ref 42]) rfl rfl rfl ?_
  refine mi_wp_p (pc' := 13) (st' := [.int (Int32.ofInt dd), .ref 42]) rfl rfl rfl ?_
  have ep1 : mi_sF σ 42 3 = mi_sF σ 42 3 + (0) := by omega
  have Tk1 := tq_ps (p' := mi_sF σ 42 3) A0 Ta (by omega)
  have hn1 : mi_sA σ 5 (mi_sF σ 42 3 + ((ts.length : Int))) = kn := ps26_k2 A0 hkn (by first | omega | (simp only [List.length_cons, List.length_append, List.length_nil]; omega))
  have hr1 : mi_sF σ 26 7 + (l (mi_sF σ 42 3)).length ≤ 1000 := by rw [ep1]; omega
  refine ty_s_cv rfl rfl rfl rfl rfl rfl (mi_cal_v2 (np := 1) (args := [.ref 42, .int (Int32.ofInt dd)]) (rest := []) rfl rfl rfl rfl rfl (Nat.le_of_ble_eq_true rfl) rfl rfl (Nat.le_of_ble_eq_true rfl) (ty_rcS S (List.mem_of_getElem? (i := 18) rfl))) (Nat.le_of_ble_eq_true rfl) S (hP σ kn pw Tk1 (by first | omega | (simp only [List.length_cons, List.length_append, List.length_nil]; omega)) hn1 fon hr1) ?_
  intro hh σ1 S f P1
  rw [ep1] at P1
  have A1 := ps26_tr pw.2.2.2.2 A0 P1
  have pw1 := ps26_pw A1 pw (by omega)
  have g1 := ps26_7 A1
  try simp only [List.length_append, List.length_cons, List.length_nil] at g1
  replace fr := mi_Fm_tr fr f
  refine mi_wp_p (pc' := 17) (st' := [.int (Int32.ofInt 0)]) rfl rfl rfl ?_
  refine mi_wp_p (pc' := 18) (l' := [(2, .int (Int32.ofInt 0)), (0, .ref 42), (1, .int (Int32.ofInt dd))]) (st' := []) rfl rfl rfl ?_
  refine mi_wp_lw (l := [(2, .int (Int32.ofInt 0)), (0, .ref 42), (1, .int (Int32.ofInt dd))]) (mi_lw_of (show List.Nodup [2, 0, 1] by decide) ⟨rfl, rfl, rfl, trivial⟩) ?_
  have ep : mi_sF σ1 42 3 = mi_sF σ 42 3 + ts.length := by omega
  have hn3 : mi_sA σ1 5 (mi_sF σ1 42 3 + (ts'.length : Int)) = kx := ps26_k2 A1 hkx (by first | omega | (simp only [List.length_cons, List.length_append, List.length_nil]; omega))
  have hr3 : mi_sF σ1 26 7 + (l' (mi_sF σ1 42 3)).length ≤ 1000 := by rw [ep]; omega
  refine mi_wp_q (hR σ1 kx pw1 (tq_ps A1 Tb (by omega)) (by omega) hn3 ⟨fo1, fo2, fo3, fo4⟩ hr3 _ _ S fr) (fun z hz => ?_)
  obtain ⟨v, h', σ', a1, a2, a3, a4, a5⟩ := hz
  rw [ep] at a5
  exact ⟨v, h', σ', a1, a2, a3, a4, ps26_eq (ps26_tr pw.2.2.2.2 A1 a5) (by first | omega | (simp only [List.length_cons, List.length_append, List.length_nil]; omega)) (by simp only [List.nil_append, List.append_nil, Int.add_zero])⟩
