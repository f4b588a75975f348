theorem mi_tst {L n : Nat} {xs : Nat → Int32} {r : Option mi_Z} (k : mi_run (some (L, xs)) n 21 mi_ML 4 [(0, .retAddr 3)] [.ref 0, .ref 0] [mi_fresh 10] 1 11 = r) : mi_run (some (L, xs)) (n + 2) 21 mi_ML 0 [(0, .retAddr 3)] [] [] 0 0 = r :=
  mi_st_m rfl rfl rfl rfl rfl rfl (mi_st_p rfl rfl rfl k)
theorem mi_tst2 {L n c1 s1 : Nat} {xs : Nat → Int32} {r : Option mi_Z} (hn : 9000 ≤ n) (k : mi_run (some (L, xs)) n 21 mi_ML 8 [(1, .ref 0), (0, .retAddr 3)] [] mi_h0 55 24836 = r) : mi_run (some (L, xs)) (n + 2) 21 mi_ML 4 [(0, .retAddr 3)] [.ref 0, .ref 0] [mi_fresh 10] 1 11 = r :=
  mi_st_c rfl rfl rfl rfl rfl rfl rfl (by decide) (Nat.le_trans hn (Nat.le_succ _)) (Or.inl rfl) (mi_k0_ok mi_r0_k).1 (mi_st_p rfl rfl rfl k)
