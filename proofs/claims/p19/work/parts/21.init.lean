/-! ===== the constructors, by evaluation ===== -/
/-- an object of class ci, new -/
def mi_fresh (ci : Nat) : va_E := .inr (ci, match mi_cl[ci]? with | some q => (List.range q.2.2).map (fun j => defaultValue (mi_ty ci j)) | none => [])
/-- a run that returns nothing: how many cells there are, how many were made, how many slots -/
def mi_k0 (r : Option mi_Z) : Option (Nat × Nat × Nat) := match r with
  | some (.inl none, h, c, s) => some (h.length, c, s)
  | _ => none
def mi_hp (r : Option mi_Z) : mi_H := match r with
  | some z => z.2.1
  | none => []
theorem mi_k0_ok {r : Option mi_Z} {k c s : Nat} (h : mi_k0 r = some (k, c, s)) : r = some (.inl none, mi_hp r, c, s) ∧ (mi_hp r).length = k := by
  unfold mi_k0 at h
  split at h
  next h' c' s' => cases h; exact ⟨rfl, rfl⟩
  next => cases h
def mi_r0 : Option mi_Z := mi_run none 9000 20 mi_M0 0 [(0, .ref 0)] [] [mi_fresh 10] 0 0
def mi_h0 : mi_H := mi_hp mi_r0
set_option maxRecDepth 1000000 in
theorem mi_r0_k : mi_k0 mi_r0 = some (55, 54, 24825) := by decide +kernel
