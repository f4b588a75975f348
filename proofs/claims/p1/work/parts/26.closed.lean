/-! ===== what lies in the cells behind both constructors; the calls that know all that they need (printed by wip/gen/p1end.py) ===== -/
def mi_out : va_E := .inl (1, (Int32.ofInt 1).toNatClampNeg, .inr (.inl (fun _ => 0)))
def mi_h2 : mi_H := mi_h1 ++ [mi_out]
def mi_fck (h : mi_H) (q : Nat × Nat × Nat × Value) : Bool := decide (mi_fv h q.1 q.2.1 q.2.2.1 = some q.2.2.2)
def mi_ack (h : mi_H) (q : Nat × Nat × Nat) : Bool := match mi_ai h q.1 with
  | some (t, n, _) => decide (t = q.2.1) && decide (n = q.2.2)
  | none => false
def mi_lck (h : mi_H) (k n : Nat) : Bool := match mi_al h k with
  | some (m, _) => decide (m = n)
  | none => false
theorem mi_fck_of {h : mi_H} {k ci j : Nat} {v : Value} (q : mi_fck h (k, ci, j, v) = true) : mi_fv h k ci j = some v := of_decide_eq_true q
theorem mi_ack_of {h : mi_H} {k t n : Nat} (q : mi_ack h (k, t, n) = true) : ∃ f, mi_ai h k = some (t, n, f) := by
  unfold mi_ack at q
  split at q
  next t' n' f hf =>
    simp only [Bool.and_eq_true, decide_eq_true_eq] at q
    obtain ⟨rfl, rfl⟩ := q
    exact ⟨f, hf⟩
  next => cases q
theorem mi_lck_of {h : mi_H} {k n : Nat} (q : mi_lck h k n = true) : ∃ f, mi_al h k = some (n, f) := by
  unfold mi_lck at q
  split at q
  next m f hf =>
    obtain rfl := of_decide_eq_true q
    exact ⟨f, hf⟩
  next => cases q
/-- a run that returns v and makes little -/
def mi_rk (r : Option mi_Z) (v : Value) : Bool := match r with
  | some (.inl (some w), _, c, s) => decide (w = v) && (decide (c ≤ 1000) && decide (s ≤ 10000))
  | _ => false
theorem mi_rk_of {r : Option mi_Z} {v : Value} (q : mi_rk r v = true) : ∃ c s : Nat, r = some (.inl (some v), mi_hp r, c, s) ∧ c ≤ 1000 ∧ s ≤ 10000 := by
  unfold mi_rk at q
  split at q
  next w h c s =>
    simp only [Bool.and_eq_true, decide_eq_true_eq] at q
    obtain ⟨rfl, h1, h2⟩ := q
    exact ⟨c, s, rfl, h1, h2⟩
  next => cases q
def mi_e0a : Option mi_Z := mi_run none 12000 20 mi_M5 0 [(0, .ref 0)] [] mi_h2 0 0
def mi_e0b : Option mi_Z := mi_run none 7000 20 mi_M92 0 [(0, .ref 55)] [] (mi_hp mi_e0a) 0 0
def mi_e1a : Option mi_Z := mi_run none 12000 20 mi_M9 0 [(0, .ref 0)] [] mi_h2 0 0
def mi_e1b : Option mi_Z := mi_run none 7000 20 mi_M97 0 [(0, .ref 55)] [] (mi_hp mi_e1a) 0 0
def mi_e2a : Option mi_Z := mi_run none 12000 20 mi_M3 0 [(0, .ref 0)] [] mi_h2 0 0
def mi_e2b : Option mi_Z := mi_run none 7000 20 mi_M88 0 [(0, .ref 55)] [] (mi_hp mi_e2a) 0 0
def mi_e3a : Option mi_Z := mi_run none 12000 20 mi_M12 0 [(0, .ref 0)] [] mi_h2 0 0
def mi_e3b : Option mi_Z := mi_run none 7000 20 mi_M113 0 [(0, .ref 55)] [] (mi_hp mi_e3a) 0 0
def mi_e4a : Option mi_Z := mi_run none 12000 20 mi_M8 0 [(0, .ref 0)] [] mi_h2 0 0
def mi_e4b : Option mi_Z := mi_run none 7000 20 mi_M96 0 [(0, .ref 55)] [] (mi_hp mi_e4a) 0 0
def mi_chk : Bool := mi_rk mi_e0a (.int 1) && (mi_rk mi_e0b (.int 1) && (mi_fck (mi_hp mi_e0a) (55, 11, 0, .int 0) && (mi_rk mi_e1a (.int (-1)) && (mi_rk mi_e1b (.int (-1)) && (mi_fck (mi_hp mi_e1a) (55, 11, 0, .int 0) && (mi_rk mi_e2a (.int 1) && (mi_rk mi_e2b (.int 1) && (mi_fck (mi_hp mi_e2a) (55, 11, 0, .int 0) && (mi_rk mi_e3a (.double 0) && (mi_rk mi_e3b (.double 0) && (mi_fck (mi_hp mi_e3a) (55, 11, 0, .int 0) && (mi_rk mi_e4a (.long 11709322759) && (mi_rk mi_e4b (.long 11709322759) && (mi_fck (mi_hp mi_e4a) (55, 11, 0, .int 0) && (mi_fck mi_h2 (0, 10, 0, .ref 1) && (mi_fck mi_h2 (0, 10, 4, .ref 17) && (mi_fck mi_h2 (0, 10, 5, .ref 26) && (mi_fck mi_h2 (0, 10, 9, .ref 52) && (mi_fck mi_h2 (0, 10, 10, .int 0) && (mi_fck mi_h2 (17, 3, 12, .int 3) && (mi_fck mi_h2 (17, 3, 13, .int 2) && (mi_fck mi_h2 (17, 3, 14, .int 0) && (mi_fck mi_h2 (26, 6, 7, .int 0) && (mi_fck mi_h2 (52, 9, 5, .int 0) && (mi_fck mi_h2 (55, 11, 0, .int 0) && (mi_fck mi_h2 (55, 11, 1, .ref 56) && (mi_fck mi_h2 (55, 11, 2, .int 0) && (mi_fck mi_h2 (55, 11, 9, .int 0) && (mi_fck mi_h2 (55, 11, 27, .int 1) && (mi_fck mi_h2 (55, 11, 30, .int 2) && (mi_fck mi_h2 (55, 11, 34, .int 0) && (mi_fck mi_h2 (55, 11, 52, .int 0) && (mi_ack mi_h2 (1, 2, 1200) && (mi_ack mi_h2 (56, 0, 1200) && (mi_lck mi_h2 98 1 && (decide (mi_h2.length = 99)))))))))))))))))))))))))))))))))))))
set_option maxRecDepth 1000000 in
theorem mi_chk_ok : mi_chk = true := by decide +kernel
theorem mi_chk_l : mi_rk mi_e0a (.int 1) = true ∧ mi_rk mi_e0b (.int 1) = true ∧ mi_fck (mi_hp mi_e0a) (55, 11, 0, .int 0) = true ∧ mi_rk mi_e1a (.int (-1)) = true ∧ mi_rk mi_e1b (.int (-1)) = true ∧ mi_fck (mi_hp mi_e1a) (55, 11, 0, .int 0) = true ∧ mi_rk mi_e2a (.int 1) = true ∧ mi_rk mi_e2b (.int 1) = true ∧ mi_fck (mi_hp mi_e2a) (55, 11, 0, .int 0) = true ∧ mi_rk mi_e3a (.double 0) = true ∧ mi_rk mi_e3b (.double 0) = true ∧ mi_fck (mi_hp mi_e3a) (55, 11, 0, .int 0) = true ∧ mi_rk mi_e4a (.long 11709322759) = true ∧ mi_rk mi_e4b (.long 11709322759) = true ∧ mi_fck (mi_hp mi_e4a) (55, 11, 0, .int 0) = true ∧ mi_fck mi_h2 (0, 10, 0, .ref 1) = true ∧ mi_fck mi_h2 (0, 10, 4, .ref 17) = true ∧ mi_fck mi_h2 (0, 10, 5, .ref 26) = true ∧ mi_fck mi_h2 (0, 10, 9, .ref 52) = true ∧ mi_fck mi_h2 (0, 10, 10, .int 0) = true ∧ mi_fck mi_h2 (17, 3, 12, .int 3) = true ∧ mi_fck mi_h2 (17, 3, 13, .int 2) = true ∧ mi_fck mi_h2 (17, 3, 14, .int 0) = true ∧ mi_fck mi_h2 (26, 6, 7, .int 0) = true ∧ mi_fck mi_h2 (52, 9, 5, .int 0) = true ∧ mi_fck mi_h2 (55, 11, 0, .int 0) = true ∧ mi_fck mi_h2 (55, 11, 1, .ref 56) = true ∧ mi_fck mi_h2 (55, 11, 2, .int 0) = true ∧ mi_fck mi_h2 (55, 11, 9, .int 0) = true ∧ mi_fck mi_h2 (55, 11, 27, .int 1) = true ∧ mi_fck mi_h2 (55, 11, 30, .int 2) = true ∧ mi_fck mi_h2 (55, 11, 34, .int 0) = true ∧ mi_fck mi_h2 (55, 11, 52, .int 0) = true ∧ mi_ack mi_h2 (1, 2, 1200) = true ∧ mi_ack mi_h2 (56, 0, 1200) = true ∧ mi_lck mi_h2 98 1 = true ∧ decide (mi_h2.length = 99) = true := by
  have h := mi_chk_ok
  unfold mi_chk at h
  simp only [Bool.and_eq_true] at h
  exact h
theorem mi_f_0_0 : mi_fv mi_h2 0 10 0 = some (.ref 1) := mi_fck_of mi_chk_l.2.2.2.2.2.2.2.2.2.2.2.2.2.2.2.1
theorem mi_f_0_4 : mi_fv mi_h2 0 10 4 = some (.ref 17) := mi_fck_of mi_chk_l.2.2.2.2.2.2.2.2.2.2.2.2.2.2.2.2.1
theorem mi_f_0_5 : mi_fv mi_h2 0 10 5 = some (.ref 26) := mi_fck_of mi_chk_l.2.2.2.2.2.2.2.2.2.2.2.2.2.2.2.2.2.1
theorem mi_f_0_9 : mi_fv mi_h2 0 10 9 = some (.ref 52) := mi_fck_of mi_chk_l.2.2.2.2.2.2.2.2.2.2.2.2.2.2.2.2.2.2.1
theorem mi_f_0_10 : mi_fv mi_h2 0 10 10 = some (.int 0) := mi_fck_of mi_chk_l.2.2.2.2.2.2.2.2.2.2.2.2.2.2.2.2.2.2.2.1
theorem mi_f_17_12 : mi_fv mi_h2 17 3 12 = some (.int 3) := mi_fck_of mi_chk_l.2.2.2.2.2.2.2.2.2.2.2.2.2.2.2.2.2.2.2.2.1
theorem mi_f_17_13 : mi_fv mi_h2 17 3 13 = some (.int 2) := mi_fck_of mi_chk_l.2.2.2.2.2.2.2.2.2.2.2.2.2.2.2.2.2.2.2.2.2.1
theorem mi_f_17_14 : mi_fv mi_h2 17 3 14 = some (.int 0) := mi_fck_of mi_chk_l.2.2.2.2.2.2.2.2.2.2.2.2.2.2.2.2.2.2.2.2.2.2.1
theorem mi_f_26_7 : mi_fv mi_h2 26 6 7 = some (.int 0) := mi_fck_of mi_chk_l.2.2.2.2.2.2.2.2.2.2.2.2.2.2.2.2.2.2.2.2.2.2.2.1
theorem mi_f_52_5 : mi_fv mi_h2 52 9 5 = some (.int 0) := mi_fck_of mi_chk_l.2.2.2.2.2.2.2.2.2.2.2.2.2.2.2.2.2.2.2.2.2.2.2.2.1
theorem mi_f_55_0 : mi_fv mi_h2 55 11 0 = some (.int 0) := mi_fck_of mi_chk_l.2.2.2.2.2.2.2.2.2.2.2.2.2.2.2.2.2.2.2.2.2.2.2.2.2.1
theorem mi_f_55_1 : mi_fv mi_h2 55 11 1 = some (.ref 56) := mi_fck_of mi_chk_l.2.2.2.2.2.2.2.2.2.2.2.2.2.2.2.2.2.2.2.2.2.2.2.2.2.2.1
theorem mi_f_55_2 : mi_fv mi_h2 55 11 2 = some (.int 0) := mi_fck_of mi_chk_l.2.2.2.2.2.2.2.2.2.2.2.2.2.2.2.2.2.2.2.2.2.2.2.2.2.2.2.1
theorem mi_f_55_9 : mi_fv mi_h2 55 11 9 = some (.int 0) := mi_fck_of mi_chk_l.2.2.2.2.2.2.2.2.2.2.2.2.2.2.2.2.2.2.2.2.2.2.2.2.2.2.2.2.1
theorem mi_f_55_27 : mi_fv mi_h2 55 11 27 = some (.int 1) := mi_fck_of mi_chk_l.2.2.2.2.2.2.2.2.2.2.2.2.2.2.2.2.2.2.2.2.2.2.2.2.2.2.2.2.2.1
theorem mi_f_55_30 : mi_fv mi_h2 55 11 30 = some (.int 2) := mi_fck_of mi_chk_l.2.2.2.2.2.2.2.2.2.2.2.2.2.2.2.2.2.2.2.2.2.2.2.2.2.2.2.2.2.2.1
theorem mi_f_55_34 : mi_fv mi_h2 55 11 34 = some (.int 0) := mi_fck_of mi_chk_l.2.2.2.2.2.2.2.2.2.2.2.2.2.2.2.2.2.2.2.2.2.2.2.2.2.2.2.2.2.2.2.1
theorem mi_f_55_52 : mi_fv mi_h2 55 11 52 = some (.int 0) := mi_fck_of mi_chk_l.2.2.2.2.2.2.2.2.2.2.2.2.2.2.2.2.2.2.2.2.2.2.2.2.2.2.2.2.2.2.2.2.1
theorem mi_f_a1 : ∃ g, mi_ai mi_h2 1 = some (2, 1200, g) := mi_ack_of mi_chk_l.2.2.2.2.2.2.2.2.2.2.2.2.2.2.2.2.2.2.2.2.2.2.2.2.2.2.2.2.2.2.2.2.2.1
theorem mi_f_a56 : ∃ g, mi_ai mi_h2 56 = some (0, 1200, g) := mi_ack_of mi_chk_l.2.2.2.2.2.2.2.2.2.2.2.2.2.2.2.2.2.2.2.2.2.2.2.2.2.2.2.2.2.2.2.2.2.2.1
theorem mi_f_a98 : ∃ f, mi_al mi_h2 98 = some (1, f) := mi_lck_of mi_chk_l.2.2.2.2.2.2.2.2.2.2.2.2.2.2.2.2.2.2.2.2.2.2.2.2.2.2.2.2.2.2.2.2.2.2.2.1
theorem mi_f_len : mi_h2.length = 99 := of_decide_eq_true mi_chk_l.2.2.2.2.2.2.2.2.2.2.2.2.2.2.2.2.2.2.2.2.2.2.2.2.2.2.2.2.2.2.2.2.2.2.2.2
theorem mi_e0_fv : mi_fv (mi_hp mi_e0a) 55 11 0 = some (.int 0) := mi_fck_of mi_chk_l.2.2.1
theorem mi_e0a_w (X : mi_X) : ∃ c s : Nat, mi_wp X 20 mi_M5 0 [(0, .ref 0)] [] mi_h2 0 0 (fun z => z = (.inl (some (.int 1)), mi_hp mi_e0a, c, s)) ∧ c ≤ 1000 ∧ s ≤ 10000 := by
  obtain ⟨c, s, h, h1, h2⟩ := mi_rk_of mi_chk_l.1
  exact ⟨c, s, mi_wp_run (Or.inl rfl) (n := 12000) h rfl, h1, h2⟩
theorem mi_e0b_w (X : mi_X) : ∃ c s : Nat, mi_wp X 20 mi_M92 0 [(0, .ref 55)] [] (mi_hp mi_e0a) 0 0 (fun z => z = (.inl (some (.int 1)), mi_hp mi_e0b, c, s)) ∧ c ≤ 1000 ∧ s ≤ 10000 := by
  obtain ⟨c, s, h, h1, h2⟩ := mi_rk_of mi_chk_l.2.1
  exact ⟨c, s, mi_wp_run (Or.inl rfl) (n := 7000) h rfl, h1, h2⟩
theorem mi_e1_fv : mi_fv (mi_hp mi_e1a) 55 11 0 = some (.int 0) := mi_fck_of mi_chk_l.2.2.2.2.2.1
theorem mi_e1a_w (X : mi_X) : ∃ c s : Nat, mi_wp X 20 mi_M9 0 [(0, .ref 0)] [] mi_h2 0 0 (fun z => z = (.inl (some (.int (-1))), mi_hp mi_e1a, c, s)) ∧ c ≤ 1000 ∧ s ≤ 10000 := by
  obtain ⟨c, s, h, h1, h2⟩ := mi_rk_of mi_chk_l.2.2.2.1
  exact ⟨c, s, mi_wp_run (Or.inl rfl) (n := 12000) h rfl, h1, h2⟩
theorem mi_e1b_w (X : mi_X) : ∃ c s : Nat, mi_wp X 20 mi_M97 0 [(0, .ref 55)] [] (mi_hp mi_e1a) 0 0 (fun z => z = (.inl (some (.int (-1))), mi_hp mi_e1b, c, s)) ∧ c ≤ 1000 ∧ s ≤ 10000 := by
  obtain ⟨c, s, h, h1, h2⟩ := mi_rk_of mi_chk_l.2.2.2.2.1
  exact ⟨c, s, mi_wp_run (Or.inl rfl) (n := 7000) h rfl, h1, h2⟩
theorem mi_e2_fv : mi_fv (mi_hp mi_e2a) 55 11 0 = some (.int 0) := mi_fck_of mi_chk_l.2.2.2.2.2.2.2.2.1
theorem mi_e2a_w (X : mi_X) : ∃ c s : Nat, mi_wp X 20 mi_M3 0 [(0, .ref 0)] [] mi_h2 0 0 (fun z => z = (.inl (some (.int 1)), mi_hp mi_e2a, c, s)) ∧ c ≤ 1000 ∧ s ≤ 10000 := by
  obtain ⟨c, s, h, h1, h2⟩ := mi_rk_of mi_chk_l.2.2.2.2.2.2.1
  exact ⟨c, s, mi_wp_run (Or.inl rfl) (n := 12000) h rfl, h1, h2⟩
theorem mi_e2b_w (X : mi_X) : ∃ c s : Nat, mi_wp X 20 mi_M88 0 [(0, .ref 55)] [] (mi_hp mi_e2a) 0 0 (fun z => z = (.inl (some (.int 1)), mi_hp mi_e2b, c, s)) ∧ c ≤ 1000 ∧ s ≤ 10000 := by
  obtain ⟨c, s, h, h1, h2⟩ := mi_rk_of mi_chk_l.2.2.2.2.2.2.2.1
  exact ⟨c, s, mi_wp_run (Or.inl rfl) (n := 7000) h rfl, h1, h2⟩
theorem mi_e3_fv : mi_fv (mi_hp mi_e3a) 55 11 0 = some (.int 0) := mi_fck_of mi_chk_l.2.2.2.2.2.2.2.2.2.2.2.1
theorem mi_e3a_w (X : mi_X) : ∃ c s : Nat, mi_wp X 20 mi_M12 0 [(0, .ref 0)] [] mi_h2 0 0 (fun z => z = (.inl (some (.double 0)), mi_hp mi_e3a, c, s)) ∧ c ≤ 1000 ∧ s ≤ 10000 := by
  obtain ⟨c, s, h, h1, h2⟩ := mi_rk_of mi_chk_l.2.2.2.2.2.2.2.2.2.1
  exact ⟨c, s, mi_wp_run (Or.inl rfl) (n := 12000) h rfl, h1, h2⟩
theorem mi_e3b_w (X : mi_X) : ∃ c s : Nat, mi_wp X 20 mi_M113 0 [(0, .ref 55)] [] (mi_hp mi_e3a) 0 0 (fun z => z = (.inl (some (.double 0)), mi_hp mi_e3b, c, s)) ∧ c ≤ 1000 ∧ s ≤ 10000 := by
  obtain ⟨c, s, h, h1, h2⟩ := mi_rk_of mi_chk_l.2.2.2.2.2.2.2.2.2.2.1
  exact ⟨c, s, mi_wp_run (Or.inl rfl) (n := 7000) h rfl, h1, h2⟩
theorem mi_e4_fv : mi_fv (mi_hp mi_e4a) 55 11 0 = some (.int 0) := mi_fck_of mi_chk_l.2.2.2.2.2.2.2.2.2.2.2.2.2.2.1
theorem mi_e4a_w (X : mi_X) : ∃ c s : Nat, mi_wp X 20 mi_M8 0 [(0, .ref 0)] [] mi_h2 0 0 (fun z => z = (.inl (some (.long 11709322759)), mi_hp mi_e4a, c, s)) ∧ c ≤ 1000 ∧ s ≤ 10000 := by
  obtain ⟨c, s, h, h1, h2⟩ := mi_rk_of mi_chk_l.2.2.2.2.2.2.2.2.2.2.2.2.1
  exact ⟨c, s, mi_wp_run (Or.inl rfl) (n := 12000) h rfl, h1, h2⟩
theorem mi_e4b_w (X : mi_X) : ∃ c s : Nat, mi_wp X 20 mi_M96 0 [(0, .ref 55)] [] (mi_hp mi_e4a) 0 0 (fun z => z = (.inl (some (.long 11709322759)), mi_hp mi_e4b, c, s)) ∧ c ≤ 1000 ∧ s ≤ 10000 := by
  obtain ⟨c, s, h, h1, h2⟩ := mi_rk_of mi_chk_l.2.2.2.2.2.2.2.2.2.2.2.2.2.1
  exact ⟨c, s, mi_wp_run (Or.inl rfl) (n := 7000) h rfl, h1, h2⟩
