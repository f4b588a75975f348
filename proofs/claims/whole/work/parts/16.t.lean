/-- an object of class ci, new -/
def mi_fresh (ci : Nat) : va_E := .inr (ci, match mi_cl[ci]? with | some q => (List.range q.2.2).map (fun j => defaultValue (mi_ty ci j)) | none => [])
def mi_len2 (r : Option mi_Z) : Option (Nat × Nat × Nat) := r.map (fun z => (z.2.1.length, z.2.2.1, z.2.2.2))
set_option maxRecDepth 100000 in
theorem mi_t0 : mi_len2 (mi_run none 9000 20 mi_M0 0 [(0, .ref 0)] [] [mi_fresh 10] 0 0) = some (55, 54, 24825) := by decide +kernel
