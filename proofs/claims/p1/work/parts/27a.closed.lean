/-! ===== what lies in the cells behind both constructors; the calls that know all that they need (printed by wip/gen/p1end.py) ===== -/
def mi_out : va_E := .inl (1, (Int32.ofInt 1).toNatClampNeg, .inr (.inl (fun _ => 0)))
def mi_fck (h : mi_H) (q : Nat × Nat × Nat × Value) : Bool := decide (mi_fv h q.1 q.2.1 q.2.2.1 = some q.2.2.2)
def mi_ack (h : mi_H) (q : Nat × Nat × Nat) : Bool := match mi_ai h q.1 with
  | some (t, n, _) => decide (t = q.2.1) && decide (n = q.2.2)
  | none => false
def mi_lck (h : mi_H) (k n : Nat) : Bool := match mi_al h k with
  | some (m, _) => decide (m = n)
  | none => false
theorem mi_fck_of {h : mi_H} {k ci j : Nat} {v : Value} (q : mi_fck h (k, ci, j, v) = true) : mi_fv h k ci j = some v := of_decide_eq_true q
theorem mi_ack_of {h : mi_H} {k t n : Nat} (q : mi_ack h (k, t, n) = true) : ∃ f, mi_ai h k = some (t, n, f) := by
  unfold mi_ack at q
  split at q
  next t' n' f hf =>
    simp only [Bool.and_eq_true, decide_eq_true_eq] at q
    obtain ⟨rfl, rfl⟩ := q
    exact ⟨f, hf⟩
  next => cases q
theorem mi_lck_of {h : mi_H} {k n : Nat} (q : mi_lck h k n = true) : ∃ f, mi_al h k = some (n, f) := by
  unfold mi_lck at q
  split at q
  next m f hf =>
    obtain rfl := of_decide_eq_true q
    exact ⟨f, hf⟩
  next => cases q
/-- a run that returns v and makes little -/
def mi_rk (r : Option mi_Z) (v : Value) : Bool := match r with
  | some (.inl (some w), h, c, s) => decide (w = v) && (decide (c ≤ 1000) && (decide (s ≤ 10000) && decide (h.length = 99)))
  | _ => false
theorem mi_rk_of {r : Option mi_Z} {v : Value} (q : mi_rk r v = true) : ∃ c s : Nat, r = some (.inl (some v), mi_hp r, c, s) ∧ c ≤ 1000 ∧ s ≤ 10000 ∧ (mi_hp r).length = 99 := by
  unfold mi_rk at q
  split at q
  next w h c s =>
    simp only [Bool.and_eq_true, decide_eq_true_eq] at q
    obtain ⟨rfl, h1, h2, h3⟩ := q
    exact ⟨c, s, rfl, h1, h2, h3⟩
  next => cases q
/-- the reference's constructor, over cells of which the class's are not known -/
def mi_r1d : Option mi_Z := mi_run none 3000 20 mi_M87 0 [(0, .ref 55)] [] (List.replicate 55 mi_du ++ [mi_fresh 11]) 0 0
/-- the class's cells, the others not known; the reference's cells and the law's row, the class's not known -/
def mi_hA : mi_H := mi_h0 ++ List.replicate 44 mi_du
def mi_hB : mi_H := mi_hp mi_r1d ++ [mi_out]
def mi_e0a : Option mi_Z := mi_run none 12000 20 mi_M5 0 [(0, .ref 0)] [] mi_hA 0 0
def mi_e0b : Option mi_Z := mi_run none 7000 20 mi_M92 0 [(0, .ref 55)] [] mi_hB 0 0
def mi_e1a : Option mi_Z := mi_run none 12000 20 mi_M9 0 [(0, .ref 0)] [] mi_hA 0 0
def mi_e1b : Option mi_Z := mi_run none 7000 20 mi_M97 0 [(0, .ref 55)] [] mi_hB 0 0
def mi_e2a : Option mi_Z := mi_run none 12000 20 mi_M3 0 [(0, .ref 0)] [] mi_hA 0 0
def mi_e2b : Option mi_Z := mi_run none 7000 20 mi_M88 0 [(0, .ref 55)] [] mi_hB 0 0
def mi_e3a : Option mi_Z := mi_run none 12000 20 mi_M12 0 [(0, .ref 0)] [] mi_hA 0 0
def mi_e3b : Option mi_Z := mi_run none 7000 20 mi_M113 0 [(0, .ref 55)] [] mi_hB 0 0
def mi_e4a : Option mi_Z := mi_run none 12000 20 mi_M8 0 [(0, .ref 0)] [] mi_hA 0 0
def mi_e4b : Option mi_Z := mi_run none 7000 20 mi_M96 0 [(0, .ref 55)] [] mi_hB 0 0
def mi_chk0 : Bool := mi_rk mi_e0a (.int 1)
set_option maxRecDepth 1000000 in
theorem mi_chk0_ok : mi_chk0 = true := by decide +kernel
theorem mi_chk0_l : mi_rk mi_e0a (.int 1) = true := by
  have h := mi_chk0_ok
  unfold mi_chk0 at h
  exact h
