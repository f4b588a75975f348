/-! ===== feed (printed by wip/gen/p1walk.py) ===== -/
theorem mi_c_append0 {X : mi_X} {d : Nat} {h : mi_H} {a : Int32} {f : Nat → Int64} {g g2 : Nat → Int32} (f0 : mi_fv h 0 10 10 = some (.int 0)) (g1 : mi_fv h 0 10 0 = some (.ref 1)) (r0 : mi_fv h 55 11 0 = some (.int 0)) (r1 : mi_fv h 55 11 2 = some (.int 0)) (r2 : mi_fv h 55 11 1 = some (.ref 56)) (a0 : mi_ai h 1 = some (2, 1200, g)) (a2 : mi_ai h 56 = some (0, 1200, g2)) (a1 : mi_al h 98 = some (1, f)) (hl : h.length = 99) : mi_wp X d mi_M2 0 [(0, .ref 0), (1, .int a)] [] h 0 0 (fun z => ∃ h', z = (.inl none, h', 0, 0) ∧ mi_fv h' 0 10 10 = some (.int 4) ∧ mi_fv h' 0 10 0 = some (.ref 1) ∧ mi_fv h' 55 11 0 = some (.int 0) ∧ mi_fv h' 55 11 2 = some (.int 0) ∧ mi_fv h' 55 11 1 = some (.ref 56) ∧ mi_ai h' 56 = some (0, 1200, g2) ∧ mi_al h' 98 = some (1, f) ∧ h'.length = 99 ∧ ∃ g', mi_ai h' 1 = some (2, 1200, g')) := by
  refine mi_wp_p (pc' := 2) rfl rfl rfl ?_
  refine mi_wp_p (pc' := 3) rfl rfl rfl ?_
  refine mi_wp_l (l' := [(2, _), (0, _), (1, _)]) rfl ?_
  refine mi_wp_p (pc' := 4) rfl rfl rfl ?_
  refine mi_wp_p (pc' := 7) rfl rfl (mi_br1 (b := false) (t := 46) (by decide +kernel) rfl) ?_
  refine mi_wp_p (pc' := 8) rfl rfl rfl ?_
  refine mi_wp_gf rfl rfl rfl f0 ?_
  refine mi_wp_p (pc' := 14) rfl rfl rfl ?_
  refine mi_wp_p (pc' := 17) rfl rfl (mi_br2 (b := false) (t := 40) (by decide +kernel) rfl) ?_
  refine mi_wp_p (pc' := 18) rfl rfl rfl ?_
  refine mi_wp_gf rfl rfl rfl g1 ?_
  refine mi_wp_p (pc' := 22) rfl rfl rfl ?_
  refine mi_wp_gf rfl rfl rfl f0 ?_
  refine mi_wp_p (pc' := 26) rfl rfl rfl ?_
  refine mi_wp_p (pc' := 27) rfl rfl rfl ?_
  refine mi_wp_p (pc' := 28) rfl rfl rfl ?_
  refine mi_wp_p (pc' := 29) rfl rfl rfl ?_
  refine mi_wp_bask rfl rfl a0 (by decide +kernel) ?_
  intro h1 e1 e2 e3 e4 e5
  replace f0 := (e2 _ _ _).trans f0
  replace g1 := (e2 _ _ _).trans g1
  replace r0 := (e2 _ _ _).trans r0
  replace r1 := (e2 _ _ _).trans r1
  replace r2 := (e2 _ _ _).trans r2
  replace a0 := e1
  replace a2 := (e3 _ (by decide)).trans a2
  replace a1 := (e4 _).trans a1
  replace hl := e5.trans hl
  clear e1 e2 e3 e4 e5
  refine mi_wp_p (pc' := 31) rfl rfl rfl ?_
  refine mi_wp_p (pc' := 32) rfl rfl rfl ?_
  refine mi_wp_gf rfl rfl rfl f0 ?_
  refine mi_wp_p (pc' := 36) rfl rfl rfl ?_
  refine mi_wp_p (pc' := 37) rfl rfl rfl ?_
  refine mi_wp_pfk rfl rfl rfl f0 mi_fit_int (Or.inl rfl) ?_
  intro h2 e1 e2 e3 e4 e5
  replace f0 := mi_eqi (y := 1) e1 (by decide +kernel)
  replace g1 := e2 _ _ _ _ g1 (by decide)
  replace r0 := e2 _ _ _ _ r0 (by decide)
  replace r1 := e2 _ _ _ _ r1 (by decide)
  replace r2 := e2 _ _ _ _ r2 (by decide)
  replace a0 := (e3 _).trans a0
  replace a2 := (e3 _).trans a2
  replace a1 := (e4 _).trans a1
  replace hl := e5.trans hl
  clear e1 e2 e3 e4 e5
  refine mi_wp_p (pc' := 43) rfl rfl rfl ?_
  refine mi_wp_p (pc' := 3) rfl rfl rfl ?_
  refine mi_wp_l (l' := [(2, _), (0, _), (1, _)]) rfl ?_
  refine mi_wp_p (pc' := 4) rfl rfl rfl ?_
  refine mi_wp_p (pc' := 7) rfl rfl (mi_br1 (b := false) (t := 46) (by decide +kernel) rfl) ?_
  refine mi_wp_p (pc' := 8) rfl rfl rfl ?_
  refine mi_wp_gf rfl rfl rfl f0 ?_
  refine mi_wp_p (pc' := 14) rfl rfl rfl ?_
  refine mi_wp_p (pc' := 17) rfl rfl (mi_br2 (b := false) (t := 40) (by decide +kernel) rfl) ?_
  refine mi_wp_p (pc' := 18) rfl rfl rfl ?_
  refine mi_wp_gf rfl rfl rfl g1 ?_
  refine mi_wp_p (pc' := 22) rfl rfl rfl ?_
  refine mi_wp_gf rfl rfl rfl f0 ?_
  refine mi_wp_p (pc' := 26) rfl rfl rfl ?_
  refine mi_wp_p (pc' := 27) rfl rfl rfl ?_
  refine mi_wp_p (pc' := 28) rfl rfl rfl ?_
  refine mi_wp_p (pc' := 29) rfl rfl rfl ?_
  refine mi_wp_bask rfl rfl a0 (by decide +kernel) ?_
  intro h3 e1 e2 e3 e4 e5
  replace f0 := (e2 _ _ _).trans f0
  replace g1 := (e2 _ _ _).trans g1
  replace r0 := (e2 _ _ _).trans r0
  replace r1 := (e2 _ _ _).trans r1
  replace r2 := (e2 _ _ _).trans r2
  replace a0 := e1
  replace a2 := (e3 _ (by decide)).trans a2
  replace a1 := (e4 _).trans a1
  replace hl := e5.trans hl
  clear e1 e2 e3 e4 e5
  refine mi_wp_p (pc' := 31) rfl rfl rfl ?_
  refine mi_wp_p (pc' := 32) rfl rfl rfl ?_
  refine mi_wp_gf rfl rfl rfl f0 ?_
  refine mi_wp_p (pc' := 36) rfl rfl rfl ?_
  refine mi_wp_p (pc' := 37) rfl rfl rfl ?_
  refine mi_wp_pfk rfl rfl rfl f0 mi_fit_int (Or.inl rfl) ?_
  intro h4 e1 e2 e3 e4 e5
  replace f0 := mi_eqi (y := 2) e1 (by decide +kernel)
  replace g1 := e2 _ _ _ _ g1 (by decide)
  replace r0 := e2 _ _ _ _ r0 (by decide)
  replace r1 := e2 _ _ _ _ r1 (by decide)
  replace r2 := e2 _ _ _ _ r2 (by decide)
  replace a0 := (e3 _).trans a0
  replace a2 := (e3 _).trans a2
  replace a1 := (e4 _).trans a1
  replace hl := e5.trans hl
  clear e1 e2 e3 e4 e5
  refine mi_wp_p (pc' := 43) rfl rfl rfl ?_
  refine mi_wp_p (pc' := 3) rfl rfl rfl ?_
  refine mi_wp_l (l' := [(2, _), (0, _), (1, _)]) rfl ?_
  refine mi_wp_p (pc' := 4) rfl rfl rfl ?_
  refine mi_wp_p (pc' := 7) rfl rfl (mi_br1 (b := false) (t := 46) (by decide +kernel) rfl) ?_
  refine mi_wp_p (pc' := 8) rfl rfl rfl ?_
  refine mi_wp_gf rfl rfl rfl f0 ?_
  refine mi_wp_p (pc' := 14) rfl rfl rfl ?_
  refine mi_wp_p (pc' := 17) rfl rfl (mi_br2 (b := false) (t := 40) (by decide +kernel) rfl) ?_
  refine mi_wp_p (pc' := 18) rfl rfl rfl ?_
  refine mi_wp_gf rfl rfl rfl g1 ?_
  refine mi_wp_p (pc' := 22) rfl rfl rfl ?_
  refine mi_wp_gf rfl rfl rfl f0 ?_
  refine mi_wp_p (pc' := 26) rfl rfl rfl ?_
  refine mi_wp_p (pc' := 27) rfl rfl rfl ?_
  refine mi_wp_p (pc' := 28) rfl rfl rfl ?_
  refine mi_wp_p (pc' := 29) rfl rfl rfl ?_
  refine mi_wp_bask rfl rfl a0 (by decide +kernel) ?_
  intro h5 e1 e2 e3 e4 e5
  replace f0 := (e2 _ _ _).trans f0
  replace g1 := (e2 _ _ _).trans g1
  replace r0 := (e2 _ _ _).trans r0
  replace r1 := (e2 _ _ _).trans r1
  replace r2 := (e2 _ _ _).trans r2
  replace a0 := e1
  replace a2 := (e3 _ (by decide)).trans a2
  replace a1 := (e4 _).trans a1
  replace hl := e5.trans hl
  clear e1 e2 e3 e4 e5
  refine mi_wp_p (pc' := 31) rfl rfl rfl ?_
  refine mi_wp_p (pc' := 32) rfl rfl rfl ?_
  refine mi_wp_gf rfl rfl rfl f0 ?_
  refine mi_wp_p (pc' := 36) rfl rfl rfl ?_
  refine mi_wp_p (pc' := 37) rfl rfl rfl ?_
  refine mi_wp_pfk rfl rfl rfl f0 mi_fit_int (Or.inl rfl) ?_
  intro h6 e1 e2 e3 e4 e5
  replace f0 := mi_eqi (y := 3) e1 (by decide +kernel)
  replace g1 := e2 _ _ _ _ g1 (by decide)
  replace r0 := e2 _ _ _ _ r0 (by decide)
  replace r1 := e2 _ _ _ _ r1 (by decide)
  replace r2 := e2 _ _ _ _ r2 (by decide)
  replace a0 := (e3 _).trans a0
  replace a2 := (e3 _).trans a2
  replace a1 := (e4 _).trans a1
  replace hl := e5.trans hl
  clear e1 e2 e3 e4 e5
  refine mi_wp_p (pc' := 43) rfl rfl rfl ?_
  refine mi_wp_p (pc' := 3) rfl rfl rfl ?_
  refine mi_wp_l (l' := [(2, _), (0, _), (1, _)]) rfl ?_
  refine mi_wp_p (pc' := 4) rfl rfl rfl ?_
  refine mi_wp_p (pc' := 7) rfl rfl (mi_br1 (b := false) (t := 46) (by decide +kernel) rfl) ?_
  refine mi_wp_p (pc' := 8) rfl rfl rfl ?_
  refine mi_wp_gf rfl rfl rfl f0 ?_
  refine mi_wp_p (pc' := 14) rfl rfl rfl ?_
  refine mi_wp_p (pc' := 17) rfl rfl (mi_br2 (b := false) (t := 40) (by decide +kernel) rfl) ?_
  refine mi_wp_p (pc' := 18) rfl rfl rfl ?_
  refine mi_wp_gf rfl rfl rfl g1 ?_
  refine mi_wp_p (pc' := 22) rfl rfl rfl ?_
  refine mi_wp_gf rfl rfl rfl f0 ?_
  refine mi_wp_p (pc' := 26) rfl rfl rfl ?_
  refine mi_wp_p (pc' := 27) rfl rfl rfl ?_
  refine mi_wp_p (pc' := 28) rfl rfl rfl ?_
  refine mi_wp_p (pc' := 29) rfl rfl rfl ?_
  refine mi_wp_bask rfl rfl a0 (by decide +kernel) ?_
  intro h7 e1 e2 e3 e4 e5
  replace f0 := (e2 _ _ _).trans f0
  replace g1 := (e2 _ _ _).trans g1
  replace r0 := (e2 _ _ _).trans r0
  replace r1 := (e2 _ _ _).trans r1
  replace r2 := (e2 _ _ _).trans r2
  replace a0 := e1
  replace a2 := (e3 _ (by decide)).trans a2
  replace a1 := (e4 _).trans a1
  replace hl := e5.trans hl
  clear e1 e2 e3 e4 e5
  refine mi_wp_p (pc' := 31) rfl rfl rfl ?_
  refine mi_wp_p (pc' := 32) rfl rfl rfl ?_
  refine mi_wp_gf rfl rfl rfl f0 ?_
  refine mi_wp_p (pc' := 36) rfl rfl rfl ?_
  refine mi_wp_p (pc' := 37) rfl rfl rfl ?_
  refine mi_wp_pfk rfl rfl rfl f0 mi_fit_int (Or.inl rfl) ?_
  intro h8 e1 e2 e3 e4 e5
  replace f0 := mi_eqi (y := 4) e1 (by decide +kernel)
  replace g1 := e2 _ _ _ _ g1 (by decide)
  replace r0 := e2 _ _ _ _ r0 (by decide)
  replace r1 := e2 _ _ _ _ r1 (by decide)
  replace r2 := e2 _ _ _ _ r2 (by decide)
  replace a0 := (e3 _).trans a0
  replace a2 := (e3 _).trans a2
  replace a1 := (e4 _).trans a1
  replace hl := e5.trans hl
  clear e1 e2 e3 e4 e5
  refine mi_wp_p (pc' := 43) rfl rfl rfl ?_
  refine mi_wp_p (pc' := 3) rfl rfl rfl ?_
  refine mi_wp_l (l' := [(2, _), (0, _), (1, _)]) rfl ?_
  refine mi_wp_p (pc' := 4) rfl rfl rfl ?_
  refine mi_wp_p (pc' := 46) rfl rfl (mi_br1 (b := true) (t := 46) (by decide +kernel) rfl) ?_
  exact mi_wp_r rfl rfl rfl rfl ⟨_, rfl, f0, g1, r0, r1, r2, a2, a1, hl, _, a0⟩
theorem mi_c_append4 {X : mi_X} {d : Nat} {h : mi_H} {a : Int32} {f : Nat → Int64} {g g2 : Nat → Int32} (f0 : mi_fv h 0 10 10 = some (.int 4)) (g1 : mi_fv h 0 10 0 = some (.ref 1)) (r0 : mi_fv h 55 11 0 = some (.int 0)) (r1 : mi_fv h 55 11 2 = some (.int 0)) (r2 : mi_fv h 55 11 1 = some (.ref 56)) (a0 : mi_ai h 1 = some (2, 1200, g)) (a2 : mi_ai h 56 = some (0, 1200, g2)) (a1 : mi_al h 98 = some (1, f)) (hl : h.length = 99) : mi_wp X d mi_M2 0 [(0, .ref 0), (1, .int a)] [] h 0 0 (fun z => ∃ h', z = (.inl none, h', 0, 0) ∧ mi_fv h' 0 10 10 = some (.int 8) ∧ mi_fv h' 0 10 0 = some (.ref 1) ∧ mi_fv h' 55 11 0 = some (.int 0) ∧ mi_fv h' 55 11 2 = some (.int 0) ∧ mi_fv h' 55 11 1 = some (.ref 56) ∧ mi_ai h' 56 = some (0, 1200, g2) ∧ mi_al h' 98 = some (1, f) ∧ h'.length = 99 ∧ ∃ g', mi_ai h' 1 = some (2, 1200, g')) := by
  refine mi_wp_p (pc' := 2) rfl rfl rfl ?_
  refine mi_wp_p (pc' := 3) rfl rfl rfl ?_
  refine mi_wp_l (l' := [(2, _), (0, _), (1, _)]) rfl ?_
  refine mi_wp_p (pc' := 4) rfl rfl rfl ?_
  refine mi_wp_p (pc' := 7) rfl rfl (mi_br1 (b := false) (t := 46) (by decide +kernel) rfl) ?_
  refine mi_wp_p (pc' := 8) rfl rfl rfl ?_
  refine mi_wp_gf rfl rfl rfl f0 ?_
  refine mi_wp_p (pc' := 14) rfl rfl rfl ?_
  refine mi_wp_p (pc' := 17) rfl rfl (mi_br2 (b := false) (t := 40) (by decide +kernel) rfl) ?_
  refine mi_wp_p (pc' := 18) rfl rfl rfl ?_
  refine mi_wp_gf rfl rfl rfl g1 ?_
  refine mi_wp_p (pc' := 22) rfl rfl rfl ?_
  refine mi_wp_gf rfl rfl rfl f0 ?_
  refine mi_wp_p (pc' := 26) rfl rfl rfl ?_
  refine mi_wp_p (pc' := 27) rfl rfl rfl ?_
  refine mi_wp_p (pc' := 28) rfl rfl rfl ?_
  refine mi_wp_p (pc' := 29) rfl rfl rfl ?_
  refine mi_wp_bask rfl rfl a0 (by decide +kernel) ?_
  intro h1 e1 e2 e3 e4 e5
  replace f0 := (e2 _ _ _).trans f0
  replace g1 := (e2 _ _ _).trans g1
  replace r0 := (e2 _ _ _).trans r0
  replace r1 := (e2 _ _ _).trans r1
  replace r2 := (e2 _ _ _).trans r2
  replace a0 := e1
  replace a2 := (e3 _ (by decide)).trans a2
  replace a1 := (e4 _).trans a1
  replace hl := e5.trans hl
  clear e1 e2 e3 e4 e5
  refine mi_wp_p (pc' := 31) rfl rfl rfl ?_
  refine mi_wp_p (pc' := 32) rfl rfl rfl ?_
  refine mi_wp_gf rfl rfl rfl f0 ?_
  refine mi_wp_p (pc' := 36) rfl rfl rfl ?_
  refine mi_wp_p (pc' := 37) rfl rfl rfl ?_
  refine mi_wp_pfk rfl rfl rfl f0 mi_fit_int (Or.inl rfl) ?_
  intro h2 e1 e2 e3 e4 e5
  replace f0 := mi_eqi (y := 5) e1 (by decide +kernel)
  replace g1 := e2 _ _ _ _ g1 (by decide)
  replace r0 := e2 _ _ _ _ r0 (by decide)
  replace r1 := e2 _ _ _ _ r1 (by decide)
  replace r2 := e2 _ _ _ _ r2 (by decide)
  replace a0 := (e3 _).trans a0
  replace a2 := (e3 _).trans a2
  replace a1 := (e4 _).trans a1
  replace hl := e5.trans hl
  clear e1 e2 e3 e4 e5
  refine mi_wp_p (pc' := 43) rfl rfl rfl ?_
  refine mi_wp_p (pc' := 3) rfl rfl rfl ?_
  refine mi_wp_l (l' := [(2, _), (0, _), (1, _)]) rfl ?_
  refine mi_wp_p (pc' := 4) rfl rfl rfl ?_
  refine mi_wp_p (pc' := 7) rfl rfl (mi_br1 (b := false) (t := 46) (by decide +kernel) rfl) ?_
  refine mi_wp_p (pc' := 8) rfl rfl rfl ?_
  refine mi_wp_gf rfl rfl rfl f0 ?_
  refine mi_wp_p (pc' := 14) rfl rfl rfl ?_
  refine mi_wp_p (pc' := 17) rfl rfl (mi_br2 (b := false) (t := 40) (by decide +kernel) rfl) ?_
  refine mi_wp_p (pc' := 18) rfl rfl rfl ?_
  refine mi_wp_gf rfl rfl rfl g1 ?_
  refine mi_wp_p (pc' := 22) rfl rfl rfl ?_
  refine mi_wp_gf rfl rfl rfl f0 ?_
  refine mi_wp_p (pc' := 26) rfl rfl rfl ?_
  refine mi_wp_p (pc' := 27) rfl rfl rfl ?_
  refine mi_wp_p (pc' := 28) rfl rfl rfl ?_
  refine mi_wp_p (pc' := 29) rfl rfl rfl ?_
  refine mi_wp_bask rfl rfl a0 (by decide +kernel) ?_
  intro h3 e1 e2 e3 e4 e5
  replace f0 := (e2 _ _ _).trans f0
  replace g1 := (e2 _ _ _).trans g1
  replace r0 := (e2 _ _ _).trans r0
  replace r1 := (e2 _ _ _).trans r1
  replace r2 := (e2 _ _ _).trans r2
  replace a0 := e1
  replace a2 := (e3 _ (by decide)).trans a2
  replace a1 := (e4 _).trans a1
  replace hl := e5.trans hl
  clear e1 e2 e3 e4 e5
  refine mi_wp_p (pc' := 31) rfl rfl rfl ?_
  refine mi_wp_p (pc' := 32) rfl rfl rfl ?_
  refine mi_wp_gf rfl rfl rfl f0 ?_
  refine mi_wp_p (pc' := 36) rfl rfl rfl ?_
  refine mi_wp_p (pc' := 37) rfl rfl rfl ?_
  refine mi_wp_pfk rfl rfl rfl f0 mi_fit_int (Or.inl rfl) ?_
  intro h4 e1 e2 e3 e4 e5
  replace f0 := mi_eqi (y := 6) e1 (by decide +kernel)
  replace g1 := e2 _ _ _ _ g1 (by decide)
  replace r0 := e2 _ _ _ _ r0 (by decide)
  replace r1 := e2 _ _ _ _ r1 (by decide)
  replace r2 := e2 _ _ _ _ r2 (by decide)
  replace a0 := (e3 _).trans a0
  replace a2 := (e3 _).trans a2
  replace a1 := (e4 _).trans a1
  replace hl := e5.trans hl
  clear e1 e2 e3 e4 e5
  refine mi_wp_p (pc' := 43) rfl rfl rfl ?_
  refine mi_wp_p (pc' := 3) rfl rfl rfl ?_
  refine mi_wp_l (l' := [(2, _), (0, _), (1, _)]) rfl ?_
  refine mi_wp_p (pc' := 4) rfl rfl rfl ?_
  refine mi_wp_p (pc' := 7) rfl rfl (mi_br1 (b := false) (t := 46) (by decide +kernel) rfl) ?_
  refine mi_wp_p (pc' := 8) rfl rfl rfl ?_
  refine mi_wp_gf rfl rfl rfl f0 ?_
  refine mi_wp_p (pc' := 14) rfl rfl rfl ?_
  refine mi_wp_p (pc' := 17) rfl rfl (mi_br2 (b := false) (t := 40) (by decide +kernel) rfl) ?_
  refine mi_wp_p (pc' := 18) rfl rfl rfl ?_
  refine mi_wp_gf rfl rfl rfl g1 ?_
  refine mi_wp_p (pc' := 22) rfl rfl rfl ?_
  refine mi_wp_gf rfl rfl rfl f0 ?_
  refine mi_wp_p (pc' := 26) rfl rfl rfl ?_
  refine mi_wp_p (pc' := 27) rfl rfl rfl ?_
  refine mi_wp_p (pc' := 28) rfl rfl rfl ?_
  refine mi_wp_p (pc' := 29) rfl rfl rfl ?_
  refine mi_wp_bask rfl rfl a0 (by decide +kernel) ?_
  intro h5 e1 e2 e3 e4 e5
  replace f0 := (e2 _ _ _).trans f0
  replace g1 := (e2 _ _ _).trans g1
  replace r0 := (e2 _ _ _).trans r0
  replace r1 := (e2 _ _ _).trans r1
  replace r2 := (e2 _ _ _).trans r2
  replace a0 := e1
  replace a2 := (e3 _ (by decide)).trans a2
  replace a1 := (e4 _).trans a1
  replace hl := e5.trans hl
  clear e1 e2 e3 e4 e5
  refine mi_wp_p (pc' := 31) rfl rfl rfl ?_
  refine mi_wp_p (pc' := 32) rfl rfl rfl ?_
  refine mi_wp_gf rfl rfl rfl f0 ?_
  refine mi_wp_p (pc' := 36) rfl rfl rfl ?_
  refine mi_wp_p (pc' := 37) rfl rfl rfl ?_
  refine mi_wp_pfk rfl rfl rfl f0 mi_fit_int (Or.inl rfl) ?_
  intro h6 e1 e2 e3 e4 e5
  replace f0 := mi_eqi (y := 7) e1 (by decide +kernel)
  replace g1 := e2 _ _ _ _ g1 (by decide)
  replace r0 := e2 _ _ _ _ r0 (by decide)
  replace r1 := e2 _ _ _ _ r1 (by decide)
  replace r2 := e2 _ _ _ _ r2 (by decide)
  replace a0 := (e3 _).trans a0
  replace a2 := (e3 _).trans a2
  replace a1 := (e4 _).trans a1
  replace hl := e5.trans hl
  clear e1 e2 e3 e4 e5
  refine mi_wp_p (pc' := 43) rfl rfl rfl ?_
  refine mi_wp_p (pc' := 3) rfl rfl rfl ?_
  refine mi_wp_l (l' := [(2, _), (0, _), (1, _)]) rfl ?_
  refine mi_wp_p (pc' := 4) rfl rfl rfl ?_
  refine mi_wp_p (pc' := 7) rfl rfl (mi_br1 (b := false) (t := 46) (by decide +kernel) rfl) ?_
  refine mi_wp_p (pc' := 8) rfl rfl rfl ?_
  refine mi_wp_gf rfl rfl rfl f0 ?_
  refine mi_wp_p (pc' := 14) rfl rfl rfl ?_
  refine mi_wp_p (pc' := 17) rfl rfl (mi_br2 (b := false) (t := 40) (by decide +kernel) rfl) ?_
  refine mi_wp_p (pc' := 18) rfl rfl rfl ?_
  refine mi_wp_gf rfl rfl rfl g1 ?_
  refine mi_wp_p (pc' := 22) rfl rfl rfl ?_
  refine mi_wp_gf rfl rfl rfl f0 ?_
  refine mi_wp_p (pc' := 26) rfl rfl rfl ?_
  refine mi_wp_p (pc' := 27) rfl rfl rfl ?_
  refine mi_wp_p (pc' := 28) rfl rfl rfl ?_
  refine mi_wp_p (pc' := 29) rfl rfl rfl ?_
  refine mi_wp_bask rfl rfl a0 (by decide +kernel) ?_
  intro h7 e1 e2 e3 e4 e5
  replace f0 := (e2 _ _ _).trans f0
  replace g1 := (e2 _ _ _).trans g1
  replace r0 := (e2 _ _ _).trans r0
  replace r1 := (e2 _ _ _).trans r1
  replace r2 := (e2 _ _ _).trans r2
  replace a0 := e1
  replace a2 := (e3 _ (by decide)).trans a2
  replace a1 := (e4 _).trans a1
  replace hl := e5.trans hl
  clear e1 e2 e3 e4 e5
  refine mi_wp_p (pc' := 31) rfl rfl rfl ?_
  refine mi_wp_p (pc' := 32) rfl rfl rfl ?_
  refine mi_wp_gf rfl rfl rfl f0 ?_
  refine mi_wp_p (pc' := 36) rfl rfl rfl ?_
  refine mi_wp_p (pc' := 37) rfl rfl rfl ?_
  refine mi_wp_pfk rfl rfl rfl f0 mi_fit_int (Or.inl rfl) ?_
  intro h8 e1 e2 e3 e4 e5
  replace f0 := mi_eqi (y := 8) e1 (by decide +kernel)
  replace g1 := e2 _ _ _ _ g1 (by decide)
  replace r0 := e2 _ _ _ _ r0 (by decide)
  replace r1 := e2 _ _ _ _ r1 (by decide)
  replace r2 := e2 _ _ _ _ r2 (by decide)
  replace a0 := (e3 _).trans a0
  replace a2 := (e3 _).trans a2
  replace a1 := (e4 _).trans a1
  replace hl := e5.trans hl
  clear e1 e2 e3 e4 e5
  refine mi_wp_p (pc' := 43) rfl rfl rfl ?_
  refine mi_wp_p (pc' := 3) rfl rfl rfl ?_
  refine mi_wp_l (l' := [(2, _), (0, _), (1, _)]) rfl ?_
  refine mi_wp_p (pc' := 4) rfl rfl rfl ?_
  refine mi_wp_p (pc' := 46) rfl rfl (mi_br1 (b := true) (t := 46) (by decide +kernel) rfl) ?_
  exact mi_wp_r rfl rfl rfl rfl ⟨_, rfl, f0, g1, r0, r1, r2, a2, a1, hl, _, a0⟩
theorem mi_c_append8 {X : mi_X} {d : Nat} {h : mi_H} {a : Int32} {f : Nat → Int64} {g g2 : Nat → Int32} (f0 : mi_fv h 0 10 10 = some (.int 8)) (g1 : mi_fv h 0 10 0 = some (.ref 1)) (r0 : mi_fv h 55 11 0 = some (.int 0)) (r1 : mi_fv h 55 11 2 = some (.int 0)) (r2 : mi_fv h 55 11 1 = some (.ref 56)) (a0 : mi_ai h 1 = some (2, 1200, g)) (a2 : mi_ai h 56 = some (0, 1200, g2)) (a1 : mi_al h 98 = some (1, f)) (hl : h.length = 99) : mi_wp X d mi_M2 0 [(0, .ref 0), (1, .int a)] [] h 0 0 (fun z => ∃ h', z = (.inl none, h', 0, 0) ∧ mi_fv h' 0 10 10 = some (.int 12) ∧ mi_fv h' 0 10 0 = some (.ref 1) ∧ mi_fv h' 55 11 0 = some (.int 0) ∧ mi_fv h' 55 11 2 = some (.int 0) ∧ mi_fv h' 55 11 1 = some (.ref 56) ∧ mi_ai h' 56 = some (0, 1200, g2) ∧ mi_al h' 98 = some (1, f) ∧ h'.length = 99 ∧ ∃ g', mi_ai h' 1 = some (2, 1200, g')) := by
  refine mi_wp_p (pc' := 2) rfl rfl rfl ?_
  refine mi_wp_p (pc' := 3) rfl rfl rfl ?_
  refine mi_wp_l (l' := [(2, _), (0, _), (1, _)]) rfl ?_
  refine mi_wp_p (pc' := 4) rfl rfl rfl ?_
  refine mi_wp_p (pc' := 7) rfl rfl (mi_br1 (b := false) (t := 46) (by decide +kernel) rfl) ?_
  refine mi_wp_p (pc' := 8) rfl rfl rfl ?_
  refine mi_wp_gf rfl rfl rfl f0 ?_
  refine mi_wp_p (pc' := 14) rfl rfl rfl ?_
  refine mi_wp_p (pc' := 17) rfl rfl (mi_br2 (b := false) (t := 40) (by decide +kernel) rfl) ?_
  refine mi_wp_p (pc' := 18) rfl rfl rfl ?_
  refine mi_wp_gf rfl rfl rfl g1 ?_
  refine mi_wp_p (pc' := 22) rfl rfl rfl ?_
  refine mi_wp_gf rfl rfl rfl f0 ?_
  refine mi_wp_p (pc' := 26) rfl rfl rfl ?_
  refine mi_wp_p (pc' := 27) rfl rfl rfl ?_
  refine mi_wp_p (pc' := 28) rfl rfl rfl ?_
  refine mi_wp_p (pc' := 29) rfl rfl rfl ?_
  refine mi_wp_bask rfl rfl a0 (by decide +kernel) ?_
  intro h1 e1 e2 e3 e4 e5
  replace f0 := (e2 _ _ _).trans f0
  replace g1 := (e2 _ _ _).trans g1
  replace r0 := (e2 _ _ _).trans r0
  replace r1 := (e2 _ _ _).trans r1
  replace r2 := (e2 _ _ _).trans r2
  replace a0 := e1
  replace a2 := (e3 _ (by decide)).trans a2
  replace a1 := (e4 _).trans a1
  replace hl := e5.trans hl
  clear e1 e2 e3 e4 e5
  refine mi_wp_p (pc' := 31) rfl rfl rfl ?_
  refine mi_wp_p (pc' := 32) rfl rfl rfl ?_
  refine mi_wp_gf rfl rfl rfl f0 ?_
  refine mi_wp_p (pc' := 36) rfl rfl rfl ?_
  refine mi_wp_p (pc' := 37) rfl rfl rfl ?_
  refine mi_wp_pfk rfl rfl rfl f0 mi_fit_int (Or.inl rfl) ?_
  intro h2 e1 e2 e3 e4 e5
  replace f0 := mi_eqi (y := 9) e1 (by decide +kernel)
  replace g1 := e2 _ _ _ _ g1 (by decide)
  replace r0 := e2 _ _ _ _ r0 (by decide)
  replace r1 := e2 _ _ _ _ r1 (by decide)
  replace r2 := e2 _ _ _ _ r2 (by decide)
  replace a0 := (e3 _).trans a0
  replace a2 := (e3 _).trans a2
  replace a1 := (e4 _).trans a1
  replace hl := e5.trans hl
  clear e1 e2 e3 e4 e5
  refine mi_wp_p (pc' := 43) rfl rfl rfl ?_
  refine mi_wp_p (pc' := 3) rfl rfl rfl ?_
  refine mi_wp_l (l' := [(2, _), (0, _), (1, _)]) rfl ?_
  refine mi_wp_p (pc' := 4) rfl rfl rfl ?_
  refine mi_wp_p (pc' := 7) rfl rfl (mi_br1 (b := false) (t := 46) (by decide +kernel) rfl) ?_
  refine mi_wp_p (pc' := 8) rfl rfl rfl ?_
  refine mi_wp_gf rfl rfl rfl f0 ?_
  refine mi_wp_p (pc' := 14) rfl rfl rfl ?_
  refine mi_wp_p (pc' := 17) rfl rfl (mi_br2 (b := false) (t := 40) (by decide +kernel) rfl) ?_
  refine mi_wp_p (pc' := 18) rfl rfl rfl ?_
  refine mi_wp_gf rfl rfl rfl g1 ?_
  refine mi_wp_p (pc' := 22) rfl rfl rfl ?_
  refine mi_wp_gf rfl rfl rfl f0 ?_
  refine mi_wp_p (pc' := 26) rfl rfl rfl ?_
  refine mi_wp_p (pc' := 27) rfl rfl rfl ?_
  refine mi_wp_p (pc' := 28) rfl rfl rfl ?_
  refine mi_wp_p (pc' := 29) rfl rfl rfl ?_
  refine mi_wp_bask rfl rfl a0 (by decide +kernel) ?_
  intro h3 e1 e2 e3 e4 e5
  replace f0 := (e2 _ _ _).trans f0
  replace g1 := (e2 _ _ _).trans g1
  replace r0 := (e2 _ _ _).trans r0
  replace r1 := (e2 _ _ _).trans r1
  replace r2 := (e2 _ _ _).trans r2
  replace a0 := e1
  replace a2 := (e3 _ (by decide)).trans a2
  replace a1 := (e4 _).trans a1
  replace hl := e5.trans hl
  clear e1 e2 e3 e4 e5
  refine mi_wp_p (pc' := 31) rfl rfl rfl ?_
  refine mi_wp_p (pc' := 32) rfl rfl rfl ?_
  refine mi_wp_gf rfl rfl rfl f0 ?_
  refine mi_wp_p (pc' := 36) rfl rfl rfl ?_
  refine mi_wp_p (pc' := 37) rfl rfl rfl ?_
  refine mi_wp_pfk rfl rfl rfl f0 mi_fit_int (Or.inl rfl) ?_
  intro h4 e1 e2 e3 e4 e5
  replace f0 := mi_eqi (y := 10) e1 (by decide +kernel)
  replace g1 := e2 _ _ _ _ g1 (by decide)
  replace r0 := e2 _ _ _ _ r0 (by decide)
  replace r1 := e2 _ _ _ _ r1 (by decide)
  replace r2 := e2 _ _ _ _ r2 (by decide)
  replace a0 := (e3 _).trans a0
  replace a2 := (e3 _).trans a2
  replace a1 := (e4 _).trans a1
  replace hl := e5.trans hl
  clear e1 e2 e3 e4 e5
  refine mi_wp_p (pc' := 43) rfl rfl rfl ?_
  refine mi_wp_p (pc' := 3) rfl rfl rfl ?_
  refine mi_wp_l (l' := [(2, _), (0, _), (1, _)]) rfl ?_
  refine mi_wp_p (pc' := 4) rfl rfl rfl ?_
  refine mi_wp_p (pc' := 7) rfl rfl (mi_br1 (b := false) (t := 46) (by decide +kernel) rfl) ?_
  refine mi_wp_p (pc' := 8) rfl rfl rfl ?_
  refine mi_wp_gf rfl rfl rfl f0 ?_
  refine mi_wp_p (pc' := 14) rfl rfl rfl ?_
  refine mi_wp_p (pc' := 17) rfl rfl (mi_br2 (b := false) (t := 40) (by decide +kernel) rfl) ?_
  refine mi_wp_p (pc' := 18) rfl rfl rfl ?_
  refine mi_wp_gf rfl rfl rfl g1 ?_
  refine mi_wp_p (pc' := 22) rfl rfl rfl ?_
  refine mi_wp_gf rfl rfl rfl f0 ?_
  refine mi_wp_p (pc' := 26) rfl rfl rfl ?_
  refine mi_wp_p (pc' := 27) rfl rfl rfl ?_
  refine mi_wp_p (pc' := 28) rfl rfl rfl ?_
  refine mi_wp_p (pc' := 29) rfl rfl rfl ?_
  refine mi_wp_bask rfl rfl a0 (by decide +kernel) ?_
  intro h5 e1 e2 e3 e4 e5
  replace f0 := (e2 _ _ _).trans f0
  replace g1 := (e2 _ _ _).trans g1
  replace r0 := (e2 _ _ _).trans r0
  replace r1 := (e2 _ _ _).trans r1
  replace r2 := (e2 _ _ _).trans r2
  replace a0 := e1
  replace a2 := (e3 _ (by decide)).trans a2
  replace a1 := (e4 _).trans a1
  replace hl := e5.trans hl
  clear e1 e2 e3 e4 e5
  refine mi_wp_p (pc' := 31) rfl rfl rfl ?_
  refine mi_wp_p (pc' := 32) rfl rfl rfl ?_
  refine mi_wp_gf rfl rfl rfl f0 ?_
  refine mi_wp_p (pc' := 36) rfl rfl rfl ?_
  refine mi_wp_p (pc' := 37) rfl rfl rfl ?_
  refine mi_wp_pfk rfl rfl rfl f0 mi_fit_int (Or.inl rfl) ?_
  intro h6 e1 e2 e3 e4 e5
  replace f0 := mi_eqi (y := 11) e1 (by decide +kernel)
  replace g1 := e2 _ _ _ _ g1 (by decide)
  replace r0 := e2 _ _ _ _ r0 (by decide)
  replace r1 := e2 _ _ _ _ r1 (by decide)
  replace r2 := e2 _ _ _ _ r2 (by decide)
  replace a0 := (e3 _).trans a0
  replace a2 := (e3 _).trans a2
  replace a1 := (e4 _).trans a1
  replace hl := e5.trans hl
  clear e1 e2 e3 e4 e5
  refine mi_wp_p (pc' := 43) rfl rfl rfl ?_
  refine mi_wp_p (pc' := 3) rfl rfl rfl ?_
  refine mi_wp_l (l' := [(2, _), (0, _), (1, _)]) rfl ?_
  refine mi_wp_p (pc' := 4) rfl rfl rfl ?_
  refine mi_wp_p (pc' := 7) rfl rfl (mi_br1 (b := false) (t := 46) (by decide +kernel) rfl) ?_
  refine mi_wp_p (pc' := 8) rfl rfl rfl ?_
  refine mi_wp_gf rfl rfl rfl f0 ?_
  refine mi_wp_p (pc' := 14) rfl rfl rfl ?_
  refine mi_wp_p (pc' := 17) rfl rfl (mi_br2 (b := false) (t := 40) (by decide +kernel) rfl) ?_
  refine mi_wp_p (pc' := 18) rfl rfl rfl ?_
  refine mi_wp_gf rfl rfl rfl g1 ?_
  refine mi_wp_p (pc' := 22) rfl rfl rfl ?_
  refine mi_wp_gf rfl rfl rfl f0 ?_
  refine mi_wp_p (pc' := 26) rfl rfl rfl ?_
  refine mi_wp_p (pc' := 27) rfl rfl rfl ?_
  refine mi_wp_p (pc' := 28) rfl rfl rfl ?_
  refine mi_wp_p (pc' := 29) rfl rfl rfl ?_
  refine mi_wp_bask rfl rfl a0 (by decide +kernel) ?_
  intro h7 e1 e2 e3 e4 e5
  replace f0 := (e2 _ _ _).trans f0
  replace g1 := (e2 _ _ _).trans g1
  replace r0 := (e2 _ _ _).trans r0
  replace r1 := (e2 _ _ _).trans r1
  replace r2 := (e2 _ _ _).trans r2
  replace a0 := e1
  replace a2 := (e3 _ (by decide)).trans a2
  replace a1 := (e4 _).trans a1
  replace hl := e5.trans hl
  clear e1 e2 e3 e4 e5
  refine mi_wp_p (pc' := 31) rfl rfl rfl ?_
  refine mi_wp_p (pc' := 32) rfl rfl rfl ?_
  refine mi_wp_gf rfl rfl rfl f0 ?_
  refine mi_wp_p (pc' := 36) rfl rfl rfl ?_
  refine mi_wp_p (pc' := 37) rfl rfl rfl ?_
  refine mi_wp_pfk rfl rfl rfl f0 mi_fit_int (Or.inl rfl) ?_
  intro h8 e1 e2 e3 e4 e5
  replace f0 := mi_eqi (y := 12) e1 (by decide +kernel)
  replace g1 := e2 _ _ _ _ g1 (by decide)
  replace r0 := e2 _ _ _ _ r0 (by decide)
  replace r1 := e2 _ _ _ _ r1 (by decide)
  replace r2 := e2 _ _ _ _ r2 (by decide)
  replace a0 := (e3 _).trans a0
  replace a2 := (e3 _).trans a2
  replace a1 := (e4 _).trans a1
  replace hl := e5.trans hl
  clear e1 e2 e3 e4 e5
  refine mi_wp_p (pc' := 43) rfl rfl rfl ?_
  refine mi_wp_p (pc' := 3) rfl rfl rfl ?_
  refine mi_wp_l (l' := [(2, _), (0, _), (1, _)]) rfl ?_
  refine mi_wp_p (pc' := 4) rfl rfl rfl ?_
  refine mi_wp_p (pc' := 46) rfl rfl (mi_br1 (b := true) (t := 46) (by decide +kernel) rfl) ?_
  exact mi_wp_r rfl rfl rfl rfl ⟨_, rfl, f0, g1, r0, r1, r2, a2, a1, hl, _, a0⟩
theorem mi_c_append12 {X : mi_X} {d : Nat} {h : mi_H} {a : Int32} {f : Nat → Int64} {g g2 : Nat → Int32} (f0 : mi_fv h 0 10 10 = some (.int 12)) (g1 : mi_fv h 0 10 0 = some (.ref 1)) (r0 : mi_fv h 55 11 0 = some (.int 0)) (r1 : mi_fv h 55 11 2 = some (.int 0)) (r2 : mi_fv h 55 11 1 = some (.ref 56)) (a0 : mi_ai h 1 = some (2, 1200, g)) (a2 : mi_ai h 56 = some (0, 1200, g2)) (a1 : mi_al h 98 = some (1, f)) (hl : h.length = 99) : mi_wp X d mi_M2 0 [(0, .ref 0), (1, .int a)] [] h 0 0 (fun z => ∃ h', z = (.inl none, h', 0, 0) ∧ mi_fv h' 0 10 10 = some (.int 16) ∧ mi_fv h' 0 10 0 = some (.ref 1) ∧ mi_fv h' 55 11 0 = some (.int 0) ∧ mi_fv h' 55 11 2 = some (.int 0) ∧ mi_fv h' 55 11 1 = some (.ref 56) ∧ mi_ai h' 56 = some (0, 1200, g2) ∧ mi_al h' 98 = some (1, f) ∧ h'.length = 99 ∧ ∃ g', mi_ai h' 1 = some (2, 1200, g')) := by
  refine mi_wp_p (pc' := 2) rfl rfl rfl ?_
  refine mi_wp_p (pc' := 3) rfl rfl rfl ?_
  refine mi_wp_l (l' := [(2, _), (0, _), (1, _)]) rfl ?_
  refine mi_wp_p (pc' := 4) rfl rfl rfl ?_
  refine mi_wp_p (pc' := 7) rfl rfl (mi_br1 (b := false) (t := 46) (by decide +kernel) rfl) ?_
  refine mi_wp_p (pc' := 8) rfl rfl rfl ?_
  refine mi_wp_gf rfl rfl rfl f0 ?_
  refine mi_wp_p (pc' := 14) rfl rfl rfl ?_
  refine mi_wp_p (pc' := 17) rfl rfl (mi_br2 (b := false) (t := 40) (by decide +kernel) rfl) ?_
  refine mi_wp_p (pc' := 18) rfl rfl rfl ?_
  refine mi_wp_gf rfl rfl rfl g1 ?_
  refine mi_wp_p (pc' := 22) rfl rfl rfl ?_
  refine mi_wp_gf rfl rfl rfl f0 ?_
  refine mi_wp_p (pc' := 26) rfl rfl rfl ?_
  refine mi_wp_p (pc' := 27) rfl rfl rfl ?_
  refine mi_wp_p (pc' := 28) rfl rfl rfl ?_
  refine mi_wp_p (pc' := 29) rfl rfl rfl ?_
  refine mi_wp_bask rfl rfl a0 (by decide +kernel) ?_
  intro h1 e1 e2 e3 e4 e5
  replace f0 := (e2 _ _ _).trans f0
  replace g1 := (e2 _ _ _).trans g1
  replace r0 := (e2 _ _ _).trans r0
  replace r1 := (e2 _ _ _).trans r1
  replace r2 := (e2 _ _ _).trans r2
  replace a0 := e1
  replace a2 := (e3 _ (by decide)).trans a2
  replace a1 := (e4 _).trans a1
  replace hl := e5.trans hl
  clear e1 e2 e3 e4 e5
  refine mi_wp_p (pc' := 31) rfl rfl rfl ?_
  refine mi_wp_p (pc' := 32) rfl rfl rfl ?_
  refine mi_wp_gf rfl rfl rfl f0 ?_
  refine mi_wp_p (pc' := 36) rfl rfl rfl ?_
  refine mi_wp_p (pc' := 37) rfl rfl rfl ?_
  refine mi_wp_pfk rfl rfl rfl f0 mi_fit_int (Or.inl rfl) ?_
  intro h2 e1 e2 e3 e4 e5
  replace f0 := mi_eqi (y := 13) e1 (by decide +kernel)
  replace g1 := e2 _ _ _ _ g1 (by decide)
  replace r0 := e2 _ _ _ _ r0 (by decide)
  replace r1 := e2 _ _ _ _ r1 (by decide)
  replace r2 := e2 _ _ _ _ r2 (by decide)
  replace a0 := (e3 _).trans a0
  replace a2 := (e3 _).trans a2
  replace a1 := (e4 _).trans a1
  replace hl := e5.trans hl
  clear e1 e2 e3 e4 e5
  refine mi_wp_p (pc' := 43) rfl rfl rfl ?_
  refine mi_wp_p (pc' := 3) rfl rfl rfl ?_
  refine mi_wp_l (l' := [(2, _), (0, _), (1, _)]) rfl ?_
  refine mi_wp_p (pc' := 4) rfl rfl rfl ?_
  refine mi_wp_p (pc' := 7) rfl rfl (mi_br1 (b := false) (t := 46) (by decide +kernel) rfl) ?_
  refine mi_wp_p (pc' := 8) rfl rfl rfl ?_
  refine mi_wp_gf rfl rfl rfl f0 ?_
  refine mi_wp_p (pc' := 14) rfl rfl rfl ?_
  refine mi_wp_p (pc' := 17) rfl rfl (mi_br2 (b := false) (t := 40) (by decide +kernel) rfl) ?_
  refine mi_wp_p (pc' := 18) rfl rfl rfl ?_
  refine mi_wp_gf rfl rfl rfl g1 ?_
  refine mi_wp_p (pc' := 22) rfl rfl rfl ?_
  refine mi_wp_gf rfl rfl rfl f0 ?_
  refine mi_wp_p (pc' := 26) rfl rfl rfl ?_
  refine mi_wp_p (pc' := 27) rfl rfl rfl ?_
  refine mi_wp_p (pc' := 28) rfl rfl rfl ?_
  refine mi_wp_p (pc' := 29) rfl rfl rfl ?_
  refine mi_wp_bask rfl rfl a0 (by decide +kernel) ?_
  intro h3 e1 e2 e3 e4 e5
  replace f0 := (e2 _ _ _).trans f0
  replace g1 := (e2 _ _ _).trans g1
  replace r0 := (e2 _ _ _).trans r0
  replace r1 := (e2 _ _ _).trans r1
  replace r2 := (e2 _ _ _).trans r2
  replace a0 := e1
  replace a2 := (e3 _ (by decide)).trans a2
  replace a1 := (e4 _).trans a1
  replace hl := e5.trans hl
  clear e1 e2 e3 e4 e5
  refine mi_wp_p (pc' := 31) rfl rfl rfl ?_
  refine mi_wp_p (pc' := 32) rfl rfl rfl ?_
  refine mi_wp_gf rfl rfl rfl f0 ?_
  refine mi_wp_p (pc' := 36) rfl rfl rfl ?_
  refine mi_wp_p (pc' := 37) rfl rfl rfl ?_
  refine mi_wp_pfk rfl rfl rfl f0 mi_fit_int (Or.inl rfl) ?_
  intro h4 e1 e2 e3 e4 e5
  replace f0 := mi_eqi (y := 14) e1 (by decide +kernel)
  replace g1 := e2 _ _ _ _ g1 (by decide)
  replace r0 := e2 _ _ _ _ r0 (by decide)
  replace r1 := e2 _ _ _ _ r1 (by decide)
  replace r2 := e2 _ _ _ _ r2 (by decide)
  replace a0 := (e3 _).trans a0
  replace a2 := (e3 _).trans a2
  replace a1 := (e4 _).trans a1
  replace hl := e5.trans hl
  clear e1 e2 e3 e4 e5
  refine mi_wp_p (pc' := 43) rfl rfl rfl ?_
  refine mi_wp_p (pc' := 3) rfl rfl rfl ?_
  refine mi_wp_l (l' := [(2, _), (0, _), (1, _)]) rfl ?_
  refine mi_wp_p (pc' := 4) rfl rfl rfl ?_
  refine mi_wp_p (pc' := 7) rfl rfl (mi_br1 (b := false) (t := 46) (by decide +kernel) rfl) ?_
  refine mi_wp_p (pc' := 8) rfl rfl rfl ?_
  refine mi_wp_gf rfl rfl rfl f0 ?_
  refine mi_wp_p (pc' := 14) rfl rfl rfl ?_
  refine mi_wp_p (pc' := 17) rfl rfl (mi_br2 (b := false) (t := 40) (by decide +kernel) rfl) ?_
  refine mi_wp_p (pc' := 18) rfl rfl rfl ?_
  refine mi_wp_gf rfl rfl rfl g1 ?_
  refine mi_wp_p (pc' := 22) rfl rfl rfl ?_
  refine mi_wp_gf rfl rfl rfl f0 ?_
  refine mi_wp_p (pc' := 26) rfl rfl rfl ?_
  refine mi_wp_p (pc' := 27) rfl rfl rfl ?_
  refine mi_wp_p (pc' := 28) rfl rfl rfl ?_
  refine mi_wp_p (pc' := 29) rfl rfl rfl ?_
  refine mi_wp_bask rfl rfl a0 (by decide +kernel) ?_
  intro h5 e1 e2 e3 e4 e5
  replace f0 := (e2 _ _ _).trans f0
  replace g1 := (e2 _ _ _).trans g1
  replace r0 := (e2 _ _ _).trans r0
  replace r1 := (e2 _ _ _).trans r1
  replace r2 := (e2 _ _ _).trans r2
  replace a0 := e1
  replace a2 := (e3 _ (by decide)).trans a2
  replace a1 := (e4 _).trans a1
  replace hl := e5.trans hl
  clear e1 e2 e3 e4 e5
  refine mi_wp_p (pc' := 31) rfl rfl rfl ?_
  refine mi_wp_p (pc' := 32) rfl rfl rfl ?_
  refine mi_wp_gf rfl rfl rfl f0 ?_
  refine mi_wp_p (pc' := 36) rfl rfl rfl ?_
  refine mi_wp_p (pc' := 37) rfl rfl rfl ?_
  refine mi_wp_pfk rfl rfl rfl f0 mi_fit_int (Or.inl rfl) ?_
  intro h6 e1 e2 e3 e4 e5
  replace f0 := mi_eqi (y := 15) e1 (by decide +kernel)
  replace g1 := e2 _ _ _ _ g1 (by decide)
  replace r0 := e2 _ _ _ _ r0 (by decide)
  replace r1 := e2 _ _ _ _ r1 (by decide)
  replace r2 := e2 _ _ _ _ r2 (by decide)
  replace a0 := (e3 _).trans a0
  replace a2 := (e3 _).trans a2
  replace a1 := (e4 _).trans a1
  replace hl := e5.trans hl
  clear e1 e2 e3 e4 e5
  refine mi_wp_p (pc' := 43) rfl rfl rfl ?_
  refine mi_wp_p (pc' := 3) rfl rfl rfl ?_
  refine mi_wp_l (l' := [(2, _), (0, _), (1, _)]) rfl ?_
  refine mi_wp_p (pc' := 4) rfl rfl rfl ?_
  refine mi_wp_p (pc' := 7) rfl rfl (mi_br1 (b := false) (t := 46) (by decide +kernel) rfl) ?_
  refine mi_wp_p (pc' := 8) rfl rfl rfl ?_
  refine mi_wp_gf rfl rfl rfl f0 ?_
  refine mi_wp_p (pc' := 14) rfl rfl rfl ?_
  refine mi_wp_p (pc' := 17) rfl rfl (mi_br2 (b := false) (t := 40) (by decide +kernel) rfl) ?_
  refine mi_wp_p (pc' := 18) rfl rfl rfl ?_
  refine mi_wp_gf rfl rfl rfl g1 ?_
  refine mi_wp_p (pc' := 22) rfl rfl rfl ?_
  refine mi_wp_gf rfl rfl rfl f0 ?_
  refine mi_wp_p (pc' := 26) rfl rfl rfl ?_
  refine mi_wp_p (pc' := 27) rfl rfl rfl ?_
  refine mi_wp_p (pc' := 28) rfl rfl rfl ?_
  refine mi_wp_p (pc' := 29) rfl rfl rfl ?_
  refine mi_wp_bask rfl rfl a0 (by decide +kernel) ?_
  intro h7 e1 e2 e3 e4 e5
  replace f0 := (e2 _ _ _).trans f0
  replace g1 := (e2 _ _ _).trans g1
  replace r0 := (e2 _ _ _).trans r0
  replace r1 := (e2 _ _ _).trans r1
  replace r2 := (e2 _ _ _).trans r2
  replace a0 := e1
  replace a2 := (e3 _ (by decide)).trans a2
  replace a1 := (e4 _).trans a1
  replace hl := e5.trans hl
  clear e1 e2 e3 e4 e5
  refine mi_wp_p (pc' := 31) rfl rfl rfl ?_
  refine mi_wp_p (pc' := 32) rfl rfl rfl ?_
  refine mi_wp_gf rfl rfl rfl f0 ?_
  refine mi_wp_p (pc' := 36) rfl rfl rfl ?_
  refine mi_wp_p (pc' := 37) rfl rfl rfl ?_
  refine mi_wp_pfk rfl rfl rfl f0 mi_fit_int (Or.inl rfl) ?_
  intro h8 e1 e2 e3 e4 e5
  replace f0 := mi_eqi (y := 16) e1 (by decide +kernel)
  replace g1 := e2 _ _ _ _ g1 (by decide)
  replace r0 := e2 _ _ _ _ r0 (by decide)
  replace r1 := e2 _ _ _ _ r1 (by decide)
  replace r2 := e2 _ _ _ _ r2 (by decide)
  replace a0 := (e3 _).trans a0
  replace a2 := (e3 _).trans a2
  replace a1 := (e4 _).trans a1
  replace hl := e5.trans hl
  clear e1 e2 e3 e4 e5
  refine mi_wp_p (pc' := 43) rfl rfl rfl ?_
  refine mi_wp_p (pc' := 3) rfl rfl rfl ?_
  refine mi_wp_l (l' := [(2, _), (0, _), (1, _)]) rfl ?_
  refine mi_wp_p (pc' := 4) rfl rfl rfl ?_
  refine mi_wp_p (pc' := 46) rfl rfl (mi_br1 (b := true) (t := 46) (by decide +kernel) rfl) ?_
  exact mi_wp_r rfl rfl rfl rfl ⟨_, rfl, f0, g1, r0, r1, r2, a2, a1, hl, _, a0⟩
theorem mi_c_append16 {X : mi_X} {d : Nat} {h : mi_H} {a : Int32} {f : Nat → Int64} {g g2 : Nat → Int32} (f0 : mi_fv h 0 10 10 = some (.int 16)) (g1 : mi_fv h 0 10 0 = some (.ref 1)) (r0 : mi_fv h 55 11 0 = some (.int 0)) (r1 : mi_fv h 55 11 2 = some (.int 0)) (r2 : mi_fv h 55 11 1 = some (.ref 56)) (a0 : mi_ai h 1 = some (2, 1200, g)) (a2 : mi_ai h 56 = some (0, 1200, g2)) (a1 : mi_al h 98 = some (1, f)) (hl : h.length = 99) : mi_wp X d mi_M2 0 [(0, .ref 0), (1, .int a)] [] h 0 0 (fun z => ∃ h', z = (.inl none, h', 0, 0) ∧ mi_fv h' 0 10 10 = some (.int 20) ∧ mi_fv h' 0 10 0 = some (.ref 1) ∧ mi_fv h' 55 11 0 = some (.int 0) ∧ mi_fv h' 55 11 2 = some (.int 0) ∧ mi_fv h' 55 11 1 = some (.ref 56) ∧ mi_ai h' 56 = some (0, 1200, g2) ∧ mi_al h' 98 = some (1, f) ∧ h'.length = 99 ∧ ∃ g', mi_ai h' 1 = some (2, 1200, g')) := by
  refine mi_wp_p (pc' := 2) rfl rfl rfl ?_
  refine mi_wp_p (pc' := 3) rfl rfl rfl ?_
  refine mi_wp_l (l' := [(2, _), (0, _), (1, _)]) rfl ?_
  refine mi_wp_p (pc' := 4) rfl rfl rfl ?_
  refine mi_wp_p (pc' := 7) rfl rfl (mi_br1 (b := false) (t := 46) (by decide +kernel) rfl) ?_
  refine mi_wp_p (pc' := 8) rfl rfl rfl ?_
  refine mi_wp_gf rfl rfl rfl f0 ?_
  refine mi_wp_p (pc' := 14) rfl rfl rfl ?_
  refine mi_wp_p (pc' := 17) rfl rfl (mi_br2 (b := false) (t := 40) (by decide +kernel) rfl) ?_
  refine mi_wp_p (pc' := 18) rfl rfl rfl ?_
  refine mi_wp_gf rfl rfl rfl g1 ?_
  refine mi_wp_p (pc' := 22) rfl rfl rfl ?_
  refine mi_wp_gf rfl rfl rfl f0 ?_
  refine mi_wp_p (pc' := 26) rfl rfl rfl ?_
  refine mi_wp_p (pc' := 27) rfl rfl rfl ?_
  refine mi_wp_p (pc' := 28) rfl rfl rfl ?_
  refine mi_wp_p (pc' := 29) rfl rfl rfl ?_
  refine mi_wp_bask rfl rfl a0 (by decide +kernel) ?_
  intro h1 e1 e2 e3 e4 e5
  replace f0 := (e2 _ _ _).trans f0
  replace g1 := (e2 _ _ _).trans g1
  replace r0 := (e2 _ _ _).trans r0
  replace r1 := (e2 _ _ _).trans r1
  replace r2 := (e2 _ _ _).trans r2
  replace a0 := e1
  replace a2 := (e3 _ (by decide)).trans a2
  replace a1 := (e4 _).trans a1
  replace hl := e5.trans hl
  clear e1 e2 e3 e4 e5
  refine mi_wp_p (pc' := 31) rfl rfl rfl ?_
  refine mi_wp_p (pc' := 32) rfl rfl rfl ?_
  refine mi_wp_gf rfl rfl rfl f0 ?_
  refine mi_wp_p (pc' := 36) rfl rfl rfl ?_
  refine mi_wp_p (pc' := 37) rfl rfl rfl ?_
  refine mi_wp_pfk rfl rfl rfl f0 mi_fit_int (Or.inl rfl) ?_
  intro h2 e1 e2 e3 e4 e5
  replace f0 := mi_eqi (y := 17) e1 (by decide +kernel)
  replace g1 := e2 _ _ _ _ g1 (by decide)
  replace r0 := e2 _ _ _ _ r0 (by decide)
  replace r1 := e2 _ _ _ _ r1 (by decide)
  replace r2 := e2 _ _ _ _ r2 (by decide)
  replace a0 := (e3 _).trans a0
  replace a2 := (e3 _).trans a2
  replace a1 := (e4 _).trans a1
  replace hl := e5.trans hl
  clear e1 e2 e3 e4 e5
  refine mi_wp_p (pc' := 43) rfl rfl rfl ?_
  refine mi_wp_p (pc' := 3) rfl rfl rfl ?_
  refine mi_wp_l (l' := [(2, _), (0, _), (1, _)]) rfl ?_
  refine mi_wp_p (pc' := 4) rfl rfl rfl ?_
  refine mi_wp_p (pc' := 7) rfl rfl (mi_br1 (b := false) (t := 46) (by decide +kernel) rfl) ?_
  refine mi_wp_p (pc' := 8) rfl rfl rfl ?_
  refine mi_wp_gf rfl rfl rfl f0 ?_
  refine mi_wp_p (pc' := 14) rfl rfl rfl ?_
  refine mi_wp_p (pc' := 17) rfl rfl (mi_br2 (b := false) (t := 40) (by decide +kernel) rfl) ?_
  refine mi_wp_p (pc' := 18) rfl rfl rfl ?_
  refine mi_wp_gf rfl rfl rfl g1 ?_
  refine mi_wp_p (pc' := 22) rfl rfl rfl ?_
  refine mi_wp_gf rfl rfl rfl f0 ?_
  refine mi_wp_p (pc' := 26) rfl rfl rfl ?_
  refine mi_wp_p (pc' := 27) rfl rfl rfl ?_
  refine mi_wp_p (pc' := 28) rfl rfl rfl ?_
  refine mi_wp_p (pc' := 29) rfl rfl rfl ?_
  refine mi_wp_bask rfl rfl a0 (by decide +kernel) ?_
  intro h3 e1 e2 e3 e4 e5
  replace f0 := (e2 _ _ _).trans f0
  replace g1 := (e2 _ _ _).trans g1
  replace r0 := (e2 _ _ _).trans r0
  replace r1 := (e2 _ _ _).trans r1
  replace r2 := (e2 _ _ _).trans r2
  replace a0 := e1
  replace a2 := (e3 _ (by decide)).trans a2
  replace a1 := (e4 _).trans a1
  replace hl := e5.trans hl
  clear e1 e2 e3 e4 e5
  refine mi_wp_p (pc' := 31) rfl rfl rfl ?_
  refine mi_wp_p (pc' := 32) rfl rfl rfl ?_
  refine mi_wp_gf rfl rfl rfl f0 ?_
  refine mi_wp_p (pc' := 36) rfl rfl rfl ?_
  refine mi_wp_p (pc' := 37) rfl rfl rfl ?_
  refine mi_wp_pfk rfl rfl rfl f0 mi_fit_int (Or.inl rfl) ?_
  intro h4 e1 e2 e3 e4 e5
  replace f0 := mi_eqi (y := 18) e1 (by decide +kernel)
  replace g1 := e2 _ _ _ _ g1 (by decide)
  replace r0 := e2 _ _ _ _ r0 (by decide)
  replace r1 := e2 _ _ _ _ r1 (by decide)
  replace r2 := e2 _ _ _ _ r2 (by decide)
  replace a0 := (e3 _).trans a0
  replace a2 := (e3 _).trans a2
  replace a1 := (e4 _).trans a1
  replace hl := e5.trans hl
  clear e1 e2 e3 e4 e5
  refine mi_wp_p (pc' := 43) rfl rfl rfl ?_
  refine mi_wp_p (pc' := 3) rfl rfl rfl ?_
  refine mi_wp_l (l' := [(2, _), (0, _), (1, _)]) rfl ?_
  refine mi_wp_p (pc' := 4) rfl rfl rfl ?_
  refine mi_wp_p (pc' := 7) rfl rfl (mi_br1 (b := false) (t := 46) (by decide +kernel) rfl) ?_
  refine mi_wp_p (pc' := 8) rfl rfl rfl ?_
  refine mi_wp_gf rfl rfl rfl f0 ?_
  refine mi_wp_p (pc' := 14) rfl rfl rfl ?_
  refine mi_wp_p (pc' := 17) rfl rfl (mi_br2 (b := false) (t := 40) (by decide +kernel) rfl) ?_
  refine mi_wp_p (pc' := 18) rfl rfl rfl ?_
  refine mi_wp_gf rfl rfl rfl g1 ?_
  refine mi_wp_p (pc' := 22) rfl rfl rfl ?_
  refine mi_wp_gf rfl rfl rfl f0 ?_
  refine mi_wp_p (pc' := 26) rfl rfl rfl ?_
  refine mi_wp_p (pc' := 27) rfl rfl rfl ?_
  refine mi_wp_p (pc' := 28) rfl rfl rfl ?_
  refine mi_wp_p (pc' := 29) rfl rfl rfl ?_
  refine mi_wp_bask rfl rfl a0 (by decide +kernel) ?_
  intro h5 e1 e2 e3 e4 e5
  replace f0 := (e2 _ _ _).trans f0
  replace g1 := (e2 _ _ _).trans g1
  replace r0 := (e2 _ _ _).trans r0
  replace r1 := (e2 _ _ _).trans r1
  replace r2 := (e2 _ _ _).trans r2
  replace a0 := e1
  replace a2 := (e3 _ (by decide)).trans a2
  replace a1 := (e4 _).trans a1
  replace hl := e5.trans hl
  clear e1 e2 e3 e4 e5
  refine mi_wp_p (pc' := 31) rfl rfl rfl ?_
  refine mi_wp_p (pc' := 32) rfl rfl rfl ?_
  refine mi_wp_gf rfl rfl rfl f0 ?_
  refine mi_wp_p (pc' := 36) rfl rfl rfl ?_
  refine mi_wp_p (pc' := 37) rfl rfl rfl ?_
  refine mi_wp_pfk rfl rfl rfl f0 mi_fit_int (Or.inl rfl) ?_
  intro h6 e1 e2 e3 e4 e5
  replace f0 := mi_eqi (y := 19) e1 (by decide +kernel)
  replace g1 := e2 _ _ _ _ g1 (by decide)
  replace r0 := e2 _ _ _ _ r0 (by decide)
  replace r1 := e2 _ _ _ _ r1 (by decide)
  replace r2 := e2 _ _ _ _ r2 (by decide)
  replace a0 := (e3 _).trans a0
  replace a2 := (e3 _).trans a2
  replace a1 := (e4 _).trans a1
  replace hl := e5.trans hl
  clear e1 e2 e3 e4 e5
  refine mi_wp_p (pc' := 43) rfl rfl rfl ?_
  refine mi_wp_p (pc' := 3) rfl rfl rfl ?_
  refine mi_wp_l (l' := [(2, _), (0, _), (1, _)]) rfl ?_
  refine mi_wp_p (pc' := 4) rfl rfl rfl ?_
  refine mi_wp_p (pc' := 7) rfl rfl (mi_br1 (b := false) (t := 46) (by decide +kernel) rfl) ?_
  refine mi_wp_p (pc' := 8) rfl rfl rfl ?_
  refine mi_wp_gf rfl rfl rfl f0 ?_
  refine mi_wp_p (pc' := 14) rfl rfl rfl ?_
  refine mi_wp_p (pc' := 17) rfl rfl (mi_br2 (b := false) (t := 40) (by decide +kernel) rfl) ?_
  refine mi_wp_p (pc' := 18) rfl rfl rfl ?_
  refine mi_wp_gf rfl rfl rfl g1 ?_
  refine mi_wp_p (pc' := 22) rfl rfl rfl ?_
  refine mi_wp_gf rfl rfl rfl f0 ?_
  refine mi_wp_p (pc' := 26) rfl rfl rfl ?_
  refine mi_wp_p (pc' := 27) rfl rfl rfl ?_
  refine mi_wp_p (pc' := 28) rfl rfl rfl ?_
  refine mi_wp_p (pc' := 29) rfl rfl rfl ?_
  refine mi_wp_bask rfl rfl a0 (by decide +kernel) ?_
  intro h7 e1 e2 e3 e4 e5
  replace f0 := (e2 _ _ _).trans f0
  replace g1 := (e2 _ _ _).trans g1
  replace r0 := (e2 _ _ _).trans r0
  replace r1 := (e2 _ _ _).trans r1
  replace r2 := (e2 _ _ _).trans r2
  replace a0 := e1
  replace a2 := (e3 _ (by decide)).trans a2
  replace a1 := (e4 _).trans a1
  replace hl := e5.trans hl
  clear e1 e2 e3 e4 e5
  refine mi_wp_p (pc' := 31) rfl rfl rfl ?_
  refine mi_wp_p (pc' := 32) rfl rfl rfl ?_
  refine mi_wp_gf rfl rfl rfl f0 ?_
  refine mi_wp_p (pc' := 36) rfl rfl rfl ?_
  refine mi_wp_p (pc' := 37) rfl rfl rfl ?_
  refine mi_wp_pfk rfl rfl rfl f0 mi_fit_int (Or.inl rfl) ?_
  intro h8 e1 e2 e3 e4 e5
  replace f0 := mi_eqi (y := 20) e1 (by decide +kernel)
  replace g1 := e2 _ _ _ _ g1 (by decide)
  replace r0 := e2 _ _ _ _ r0 (by decide)
  replace r1 := e2 _ _ _ _ r1 (by decide)
  replace r2 := e2 _ _ _ _ r2 (by decide)
  replace a0 := (e3 _).trans a0
  replace a2 := (e3 _).trans a2
  replace a1 := (e4 _).trans a1
  replace hl := e5.trans hl
  clear e1 e2 e3 e4 e5
  refine mi_wp_p (pc' := 43) rfl rfl rfl ?_
  refine mi_wp_p (pc' := 3) rfl rfl rfl ?_
  refine mi_wp_l (l' := [(2, _), (0, _), (1, _)]) rfl ?_
  refine mi_wp_p (pc' := 4) rfl rfl rfl ?_
  refine mi_wp_p (pc' := 46) rfl rfl (mi_br1 (b := true) (t := 46) (by decide +kernel) rfl) ?_
  exact mi_wp_r rfl rfl rfl rfl ⟨_, rfl, f0, g1, r0, r1, r2, a2, a1, hl, _, a0⟩
theorem mi_c_feed {X : mi_X} {h : mi_H} {x1 x2 x3 x4 x5 : Int32} {f : Nat → Int64} {g g2 : Nat → Int32} (f0 : mi_fv h 0 10 10 = some (.int 0)) (g1 : mi_fv h 0 10 0 = some (.ref 1)) (r0 : mi_fv h 55 11 0 = some (.int 0)) (r1 : mi_fv h 55 11 2 = some (.int 0)) (r2 : mi_fv h 55 11 1 = some (.ref 56)) (a0 : mi_ai h 1 = some (2, 1200, g)) (a2 : mi_ai h 56 = some (0, 1200, g2)) (a1 : mi_al h 98 = some (1, f)) (hl : h.length = 99) : mi_wp X 19 mi_M10 0 [(0, .ref 0), (1, .int x1), (2, .int x2), (3, .int x3), (4, .int x4), (5, .int x5)] [] h 0 0 (fun z => ∃ h', z = (.inl (some (.int 20)), h', 0, 0) ∧ mi_fv h' 55 11 0 = some (.int 0) ∧ mi_fv h' 55 11 2 = some (.int 0) ∧ mi_fv h' 55 11 1 = some (.ref 56) ∧ mi_ai h' 56 = some (0, 1200, g2) ∧ mi_al h' 98 = some (1, f) ∧ h'.length = 99) := by
  have hd : 8 ≤ 19 := by decide
  refine mi_wp_p (pc' := 1) rfl rfl rfl ?_
  refine mi_wp_gf rfl rfl rfl f0 ?_
  refine mi_wp_p (pc' := 6) rfl rfl rfl ?_
  refine mi_wp_p (pc' := 7) rfl rfl rfl ?_
  refine mi_wp_p (pc' := 10) rfl rfl rfl ?_
  refine mi_wp_p (pc' := 23) rfl rfl (mi_br2 (b := true) (t := 23) (by decide +kernel) rfl) ?_
  refine mi_wp_p (pc' := 24) rfl rfl rfl ?_
  refine mi_wp_p (pc' := 25) rfl rfl rfl ?_
  refine mi_wp_ce rfl rfl rfl rfl rfl rfl (mi_cal_v (np := 1) rfl rfl rfl rfl (Nat.le_of_ble_eq_true rfl) (Nat.le_of_ble_eq_true rfl) (mi_rc_of f0)) (Nat.le_of_ble_eq_true rfl) (mi_c_append0 f0 g1 r0 r1 r2 a0 a2 a1 hl) ?_
  intro h90 q9
  obtain ⟨f0, g1, r0, r1, r2, a2, a1, hl, g90, a0⟩ := q9
  refine mi_wp_p (pc' := 29) rfl rfl rfl ?_
  refine mi_wp_p (pc' := 30) rfl rfl rfl ?_
  refine mi_wp_ce rfl rfl rfl rfl rfl rfl (mi_cal_v (np := 1) rfl rfl rfl rfl (Nat.le_of_ble_eq_true rfl) (Nat.le_of_ble_eq_true rfl) (mi_rc_of f0)) (Nat.le_of_ble_eq_true rfl) (mi_c_append4 f0 g1 r0 r1 r2 a0 a2 a1 hl) ?_
  intro h94 q9
  obtain ⟨f0, g1, r0, r1, r2, a2, a1, hl, g94, a0⟩ := q9
  refine mi_wp_p (pc' := 34) rfl rfl rfl ?_
  refine mi_wp_p (pc' := 35) rfl rfl rfl ?_
  refine mi_wp_ce rfl rfl rfl rfl rfl rfl (mi_cal_v (np := 1) rfl rfl rfl rfl (Nat.le_of_ble_eq_true rfl) (Nat.le_of_ble_eq_true rfl) (mi_rc_of f0)) (Nat.le_of_ble_eq_true rfl) (mi_c_append8 f0 g1 r0 r1 r2 a0 a2 a1 hl) ?_
  intro h98 q9
  obtain ⟨f0, g1, r0, r1, r2, a2, a1, hl, g98, a0⟩ := q9
  refine mi_wp_p (pc' := 39) rfl rfl rfl ?_
  refine mi_wp_p (pc' := 41) rfl rfl rfl ?_
  refine mi_wp_ce rfl rfl rfl rfl rfl rfl (mi_cal_v (np := 1) rfl rfl rfl rfl (Nat.le_of_ble_eq_true rfl) (Nat.le_of_ble_eq_true rfl) (mi_rc_of f0)) (Nat.le_of_ble_eq_true rfl) (mi_c_append12 f0 g1 r0 r1 r2 a0 a2 a1 hl) ?_
  intro h102 q9
  obtain ⟨f0, g1, r0, r1, r2, a2, a1, hl, g102, a0⟩ := q9
  refine mi_wp_p (pc' := 45) rfl rfl rfl ?_
  refine mi_wp_p (pc' := 47) rfl rfl rfl ?_
  refine mi_wp_ce rfl rfl rfl rfl rfl rfl (mi_cal_v (np := 1) rfl rfl rfl rfl (Nat.le_of_ble_eq_true rfl) (Nat.le_of_ble_eq_true rfl) (mi_rc_of f0)) (Nat.le_of_ble_eq_true rfl) (mi_c_append16 f0 g1 r0 r1 r2 a0 a2 a1 hl) ?_
  intro h106 q9
  obtain ⟨f0, g1, r0, r1, r2, a2, a1, hl, g106, a0⟩ := q9
  refine mi_wp_p (pc' := 51) rfl rfl rfl ?_
  refine mi_wp_gf rfl rfl rfl f0 ?_
  exact mi_wp_r rfl rfl rfl rfl ⟨_, rfl, r0, r1, r2, a2, a1, hl⟩
theorem mi_l_feed {X : mi_X} {h : mi_H} {x1 x2 x3 x4 x5 : Int32} {f : Nat → Int64} {g g2 : Nat → Int32} (f0 : mi_fv h 0 10 10 = some (.int 0)) (g1 : mi_fv h 0 10 0 = some (.ref 1)) (r0 : mi_fv h 55 11 0 = some (.int 0)) (r1 : mi_fv h 55 11 2 = some (.int 0)) (r2 : mi_fv h 55 11 1 = some (.ref 56)) (a0 : mi_ai h 1 = some (2, 1200, g)) (a2 : mi_ai h 56 = some (0, 1200, g2)) (a1 : mi_al h 98 = some (1, f)) (hl : h.length = 99) : mi_wp X 20 mi_M79 0 [(0, .ref 0), (1, .int x1), (2, .int x2), (3, .int x3), (4, .int x4), (5, .int x5), (6, .ref 98)] [] h 0 0 (fun z => ∃ h', z = (.inl (some (.int (Int32.ofInt 0))), h', 0, 0) ∧ mi_fv h' 55 11 0 = some (.int 0) ∧ mi_fv h' 55 11 2 = some (.int 0) ∧ mi_fv h' 55 11 1 = some (.ref 56) ∧ mi_ai h' 56 = some (0, 1200, g2) ∧ h'.length = 99 ∧ ∃ f1 : Nat → Int64, mi_al h' 98 = some (1, f1) ∧ f1 0 = 20) := by
  have hd : 8 ≤ 20 := by decide
  refine mi_wp_p (pc' := 2) rfl rfl rfl ?_
  refine mi_wp_p (pc' := 3) rfl rfl rfl ?_
  refine mi_wp_p (pc' := 4) rfl rfl rfl ?_
  refine mi_wp_p (pc' := 5) rfl rfl rfl ?_
  refine mi_wp_p (pc' := 6) rfl rfl rfl ?_
  refine mi_wp_p (pc' := 7) rfl rfl rfl ?_
  refine mi_wp_p (pc' := 9) rfl rfl rfl ?_
  refine mi_wp_p (pc' := 11) rfl rfl rfl ?_
  refine mi_wp_ce rfl rfl rfl rfl rfl rfl (mi_cal_v (np := 5) rfl rfl rfl rfl (Nat.le_of_ble_eq_true rfl) (Nat.le_of_ble_eq_true rfl) (mi_rc_of f0)) (Nat.le_of_ble_eq_true rfl) (mi_c_feed f0 g1 r0 r1 r2 a0 a2 a1 hl) ?_
  intro h91 q9
  obtain ⟨r0, r1, r2, a2, a1, hl⟩ := q9
  refine mi_wp_p (pc' := 15) rfl rfl rfl ?_
  refine mi_wp_lask rfl rfl a1 (by decide +kernel) ?_
  intro h1 e1 e2 e3 e4 e5
  replace r0 := (e2 _ _ _).trans r0
  replace r1 := (e2 _ _ _).trans r1
  replace r2 := (e2 _ _ _).trans r2
  replace a2 := (e3 _).trans a2
  replace a1 := e1
  replace hl := e5.trans hl
  clear e1 e2 e3 e4 e5
  refine mi_wp_p (pc' := 23) rfl rfl rfl ?_
  refine mi_wp_p (pc' := 24) rfl rfl rfl ?_
  exact mi_wp_r rfl rfl rfl rfl ⟨_, rfl, r0, r1, r2, a2, hl, _, a1, mi_o0 (by decide +kernel) (by decide +kernel)⟩
set_option maxHeartbeats 4000000 in
theorem mi_r_feed {X : mi_X} {d : Nat} {h : mi_H} {x1 x2 x3 x4 x5 : Int32} {f : Nat → Int64} {g2 : Nat → Int32} (r0 : mi_fv h 55 11 0 = some (.int 0)) (r1 : mi_fv h 55 11 2 = some (.int 0)) (r2 : mi_fv h 55 11 1 = some (.ref 56)) (a2 : mi_ai h 56 = some (0, 1200, g2)) (a1 : mi_al h 98 = some (1, f)) (hl : h.length = 99) : mi_wp X d mi_M99 0 [(0, .ref 55), (1, .int x1), (2, .int x2), (3, .int x3), (4, .int x4), (5, .int x5)] [] h 0 0 (fun z => ∃ h', z = (.inl (some (.int 20)), h', 0 + 1, 0 + (Int32.ofInt 5).toNatClampNeg) ∧ mi_fv h' 55 11 0 = some (.int 0) ∧ mi_al h' 98 = some (1, f)) := by
  refine mi_wp_p (pc' := 1) rfl rfl rfl ?_
  refine mi_wp_p (pc' := 2) rfl rfl rfl ?_
  refine mi_wp_pfk rfl rfl rfl r0 mi_fit_int (Or.inl rfl) ?_
  intro h1 e1 e2 e3 e4 e5
  replace r0 := mi_eqi (y := 0) e1 (by decide +kernel)
  replace r1 := e2 _ _ _ _ r1 (by decide)
  replace r2 := e2 _ _ _ _ r2 (by decide)
  replace a2 := (e3 _).trans a2
  replace a1 := (e4 _).trans a1
  replace hl := e5.trans hl
  clear e1 e2 e3 e4 e5
  refine mi_wp_p (pc' := 6) rfl rfl rfl ?_
  refine mi_wp_gf rfl rfl rfl r1 ?_
  refine mi_wp_p (pc' := 11) rfl rfl rfl ?_
  refine mi_wp_p (pc' := 12) rfl rfl rfl ?_
  refine mi_wp_p (pc' := 15) rfl rfl rfl ?_
  refine mi_wp_p (pc' := 24) rfl rfl (mi_br2 (b := true) (t := 24) (by decide +kernel) rfl) ?_
  refine mi_wp_p (pc' := 25) rfl rfl rfl ?_
  refine mi_wp_nai rfl rfl hl (by decide +kernel) ?_
  intro h2 n99 e2 e3 e4 _
  replace r0 := e2 _ _ _ _ r0
  replace r1 := e2 _ _ _ _ r1
  replace r2 := e2 _ _ _ _ r2
  replace a2 := e3 _ _ _ _ a2
  replace a1 := e4 _ _ _ a1
  clear e2 e3 e4
  refine mi_wp_p (pc' := 28) rfl rfl rfl ?_
  refine mi_wp_p (pc' := 29) rfl rfl rfl ?_
  refine mi_wp_p (pc' := 30) rfl rfl rfl ?_
  refine mi_wp_iask rfl rfl n99 (by decide +kernel) ?_
  intro h3 e1 e2 e3 e4 e5
  replace r0 := (e2 _ _ _).trans r0
  replace r1 := (e2 _ _ _).trans r1
  replace r2 := (e2 _ _ _).trans r2
  replace a2 := (e3 _ (by decide)).trans a2
  replace a1 := (e4 _).trans a1
  replace n99 := e1
  clear e1 e2 e3 e4 e5
  refine mi_wp_p (pc' := 32) rfl rfl rfl ?_
  refine mi_wp_p (pc' := 33) rfl rfl rfl ?_
  refine mi_wp_p (pc' := 34) rfl rfl rfl ?_
  refine mi_wp_iask rfl rfl n99 (by decide +kernel) ?_
  intro h4 e1 e2 e3 e4 e5
  replace r0 := (e2 _ _ _).trans r0
  replace r1 := (e2 _ _ _).trans r1
  replace r2 := (e2 _ _ _).trans r2
  replace a2 := (e3 _ (by decide)).trans a2
  replace a1 := (e4 _).trans a1
  replace n99 := e1
  clear e1 e2 e3 e4 e5
  refine mi_wp_p (pc' := 36) rfl rfl rfl ?_
  refine mi_wp_p (pc' := 37) rfl rfl rfl ?_
  refine mi_wp_p (pc' := 38) rfl rfl rfl ?_
  refine mi_wp_iask rfl rfl n99 (by decide +kernel) ?_
  intro h5 e1 e2 e3 e4 e5
  replace r0 := (e2 _ _ _).trans r0
  replace r1 := (e2 _ _ _).trans r1
  replace r2 := (e2 _ _ _).trans r2
  replace a2 := (e3 _ (by decide)).trans a2
  replace a1 := (e4 _).trans a1
  replace n99 := e1
  clear e1 e2 e3 e4 e5
  refine mi_wp_p (pc' := 40) rfl rfl rfl ?_
  refine mi_wp_p (pc' := 41) rfl rfl rfl ?_
  refine mi_wp_p (pc' := 43) rfl rfl rfl ?_
  refine mi_wp_iask rfl rfl n99 (by decide +kernel) ?_
  intro h6 e1 e2 e3 e4 e5
  replace r0 := (e2 _ _ _).trans r0
  replace r1 := (e2 _ _ _).trans r1
  replace r2 := (e2 _ _ _).trans r2
  replace a2 := (e3 _ (by decide)).trans a2
  replace a1 := (e4 _).trans a1
  replace n99 := e1
  clear e1 e2 e3 e4 e5
  refine mi_wp_p (pc' := 45) rfl rfl rfl ?_
  refine mi_wp_p (pc' := 46) rfl rfl rfl ?_
  refine mi_wp_p (pc' := 48) rfl rfl rfl ?_
  refine mi_wp_iask rfl rfl n99 (by decide +kernel) ?_
  intro h7 e1 e2 e3 e4 e5
  replace r0 := (e2 _ _ _).trans r0
  replace r1 := (e2 _ _ _).trans r1
  replace r2 := (e2 _ _ _).trans r2
  replace a2 := (e3 _ (by decide)).trans a2
  replace a1 := (e4 _).trans a1
  replace n99 := e1
  clear e1 e2 e3 e4 e5
  refine mi_wp_p (pc' := 51) rfl rfl rfl ?_
  refine mi_wp_p (pc' := 53) rfl rfl rfl ?_
  refine mi_wp_p (pc' := 55) rfl rfl rfl ?_
  refine mi_wp_p (pc' := 57) rfl rfl rfl ?_
  refine mi_wp_aln rfl rfl n99 (by decide) ?_
  refine mi_wp_p (pc' := 60) rfl rfl rfl ?_
  refine mi_wp_p (pc' := 61) rfl rfl rfl ?_
  refine mi_wp_p (pc' := 63) rfl rfl rfl ?_
  refine mi_wp_l (l' := [(9, _), (8, _), (7, _), (6, _), (0, _), (1, _), (2, _), (3, _), (4, _), (5, _)]) rfl ?_
  refine mi_wp_p (pc' := 65) rfl rfl rfl ?_
  refine mi_wp_p (pc' := 67) rfl rfl rfl ?_
  refine mi_wp_p (pc' := 70) rfl rfl (mi_br2 (b := false) (t := 128) (by decide +kernel) rfl) ?_
  refine mi_wp_p (pc' := 72) rfl rfl rfl ?_
  refine mi_wp_p (pc' := 74) rfl rfl rfl ?_
  refine mi_wp_ials rfl rfl n99 (by decide +kernel) ?_
  refine mi_wp_p (pc' := 77) rfl rfl rfl ?_
  refine mi_wp_p (pc' := 78) rfl rfl rfl ?_
  refine mi_wp_p (pc' := 80) rfl rfl rfl ?_
  refine mi_wp_l (l' := [(11, _), (10, _), (9, _), (8, _), (7, _), (6, _), (0, _), (1, _), (2, _), (3, _), (4, _), (5, _)]) rfl ?_
  refine mi_wp_p (pc' := 82) rfl rfl rfl ?_
  refine mi_wp_p (pc' := 85) rfl rfl (mi_br1 (b := false) (t := 122) (by decide +kernel) rfl) ?_
  refine mi_wp_p (pc' := 86) rfl rfl rfl ?_
  refine mi_wp_gf rfl rfl rfl r2 ?_
  refine mi_wp_p (pc' := 90) rfl rfl rfl ?_
  refine mi_wp_gf rfl rfl rfl r1 ?_
  refine mi_wp_p (pc' := 95) rfl rfl rfl ?_
  refine mi_wp_p (pc' := 97) rfl rfl rfl ?_
  refine mi_wp_p (pc' := 99) rfl rfl rfl ?_
  refine mi_wp_p (pc' := 100) rfl rfl rfl ?_
  refine mi_wp_p (pc' := 101) rfl rfl rfl ?_
  refine mi_wp_p (pc' := 104) rfl rfl rfl ?_
  refine mi_wp_p (pc' := 105) rfl rfl rfl ?_
  refine mi_wp_iask rfl rfl a2 (by decide +kernel) ?_
  intro h8 e1 e2 e3 e4 e5
  replace r0 := (e2 _ _ _).trans r0
  replace r1 := (e2 _ _ _).trans r1
  replace r2 := (e2 _ _ _).trans r2
  replace a2 := e1
  replace a1 := (e4 _).trans a1
  replace n99 := (e3 _ (by decide)).trans n99
  clear e1 e2 e3 e4 e5
  refine mi_wp_p (pc' := 107) rfl rfl rfl ?_
  refine mi_wp_p (pc' := 108) rfl rfl rfl ?_
  refine mi_wp_gf rfl rfl rfl r1 ?_
  refine mi_wp_p (pc' := 112) rfl rfl rfl ?_
  refine mi_wp_p (pc' := 113) rfl rfl rfl ?_
  refine mi_wp_pfk rfl rfl rfl r1 mi_fit_int (Or.inl rfl) ?_
  intro h9 e1 e2 e3 e4 e5
  replace r0 := e2 _ _ _ _ r0 (by decide)
  replace r1 := mi_eqi (y := 1) e1 (by decide +kernel)
  replace r2 := e2 _ _ _ _ r2 (by decide)
  replace a2 := (e3 _).trans a2
  replace a1 := (e4 _).trans a1
  replace n99 := (e3 _).trans n99
  clear e1 e2 e3 e4 e5
  refine mi_wp_p (pc' := 119) rfl rfl rfl ?_
  refine mi_wp_p (pc' := 80) rfl rfl rfl ?_
  refine mi_wp_l (l' := [(11, _), (10, _), (9, _), (8, _), (7, _), (6, _), (0, _), (1, _), (2, _), (3, _), (4, _), (5, _)]) rfl ?_
  refine mi_wp_p (pc' := 82) rfl rfl rfl ?_
  refine mi_wp_p (pc' := 85) rfl rfl (mi_br1 (b := false) (t := 122) (by decide +kernel) rfl) ?_
  refine mi_wp_p (pc' := 86) rfl rfl rfl ?_
  refine mi_wp_gf rfl rfl rfl r2 ?_
  refine mi_wp_p (pc' := 90) rfl rfl rfl ?_
  refine mi_wp_gf rfl rfl rfl r1 ?_
  refine mi_wp_p (pc' := 95) rfl rfl rfl ?_
  refine mi_wp_p (pc' := 97) rfl rfl rfl ?_
  refine mi_wp_p (pc' := 99) rfl rfl rfl ?_
  refine mi_wp_p (pc' := 100) rfl rfl rfl ?_
  refine mi_wp_p (pc' := 101) rfl rfl rfl ?_
  refine mi_wp_p (pc' := 104) rfl rfl rfl ?_
  refine mi_wp_p (pc' := 105) rfl rfl rfl ?_
  refine mi_wp_iask rfl rfl a2 (by decide +kernel) ?_
  intro h10 e1 e2 e3 e4 e5
  replace r0 := (e2 _ _ _).trans r0
  replace r1 := (e2 _ _ _).trans r1
  replace r2 := (e2 _ _ _).trans r2
  replace a2 := e1
  replace a1 := (e4 _).trans a1
  replace n99 := (e3 _ (by decide)).trans n99
  clear e1 e2 e3 e4 e5
  refine mi_wp_p (pc' := 107) rfl rfl rfl ?_
  refine mi_wp_p (pc' := 108) rfl rfl rfl ?_
  refine mi_wp_gf rfl rfl rfl r1 ?_
  refine mi_wp_p (pc' := 112) rfl rfl rfl ?_
  refine mi_wp_p (pc' := 113) rfl rfl rfl ?_
  refine mi_wp_pfk rfl rfl rfl r1 mi_fit_int (Or.inl rfl) ?_
  intro h11 e1 e2 e3 e4 e5
  replace r0 := e2 _ _ _ _ r0 (by decide)
  replace r1 := mi_eqi (y := 2) e1 (by decide +kernel)
  replace r2 := e2 _ _ _ _ r2 (by decide)
  replace a2 := (e3 _).trans a2
  replace a1 := (e4 _).trans a1
  replace n99 := (e3 _).trans n99
  clear e1 e2 e3 e4 e5
  refine mi_wp_p (pc' := 119) rfl rfl rfl ?_
  refine mi_wp_p (pc' := 80) rfl rfl rfl ?_
  refine mi_wp_l (l' := [(11, _), (10, _), (9, _), (8, _), (7, _), (6, _), (0, _), (1, _), (2, _), (3, _), (4, _), (5, _)]) rfl ?_
  refine mi_wp_p (pc' := 82) rfl rfl rfl ?_
  refine mi_wp_p (pc' := 85) rfl rfl (mi_br1 (b := false) (t := 122) (by decide +kernel) rfl) ?_
  refine mi_wp_p (pc' := 86) rfl rfl rfl ?_
  refine mi_wp_gf rfl rfl rfl r2 ?_
  refine mi_wp_p (pc' := 90) rfl rfl rfl ?_
  refine mi_wp_gf rfl rfl rfl r1 ?_
  refine mi_wp_p (pc' := 95) rfl rfl rfl ?_
  refine mi_wp_p (pc' := 97) rfl rfl rfl ?_
  refine mi_wp_p (pc' := 99) rfl rfl rfl ?_
  refine mi_wp_p (pc' := 100) rfl rfl rfl ?_
  refine mi_wp_p (pc' := 101) rfl rfl rfl ?_
  refine mi_wp_p (pc' := 104) rfl rfl rfl ?_
  refine mi_wp_p (pc' := 105) rfl rfl rfl ?_
  refine mi_wp_iask rfl rfl a2 (by decide +kernel) ?_
  intro h12 e1 e2 e3 e4 e5
  replace r0 := (e2 _ _ _).trans r0
  replace r1 := (e2 _ _ _).trans r1
  replace r2 := (e2 _ _ _).trans r2
  replace a2 := e1
  replace a1 := (e4 _).trans a1
  replace n99 := (e3 _ (by decide)).trans n99
  clear e1 e2 e3 e4 e5
  refine mi_wp_p (pc' := 107) rfl rfl rfl ?_
  refine mi_wp_p (pc' := 108) rfl rfl rfl ?_
  refine mi_wp_gf rfl rfl rfl r1 ?_
  refine mi_wp_p (pc' := 112) rfl rfl rfl ?_
  refine mi_wp_p (pc' := 113) rfl rfl rfl ?_
  refine mi_wp_pfk rfl rfl rfl r1 mi_fit_int (Or.inl rfl) ?_
  intro h13 e1 e2 e3 e4 e5
  replace r0 := e2 _ _ _ _ r0 (by decide)
  replace r1 := mi_eqi (y := 3) e1 (by decide +kernel)
  replace r2 := e2 _ _ _ _ r2 (by decide)
  replace a2 := (e3 _).trans a2
  replace a1 := (e4 _).trans a1
  replace n99 := (e3 _).trans n99
  clear e1 e2 e3 e4 e5
  refine mi_wp_p (pc' := 119) rfl rfl rfl ?_
  refine mi_wp_p (pc' := 80) rfl rfl rfl ?_
  refine mi_wp_l (l' := [(11, _), (10, _), (9, _), (8, _), (7, _), (6, _), (0, _), (1, _), (2, _), (3, _), (4, _), (5, _)]) rfl ?_
  refine mi_wp_p (pc' := 82) rfl rfl rfl ?_
  refine mi_wp_p (pc' := 85) rfl rfl (mi_br1 (b := false) (t := 122) (by decide +kernel) rfl) ?_
  refine mi_wp_p (pc' := 86) rfl rfl rfl ?_
  refine mi_wp_gf rfl rfl rfl r2 ?_
  refine mi_wp_p (pc' := 90) rfl rfl rfl ?_
  refine mi_wp_gf rfl rfl rfl r1 ?_
  refine mi_wp_p (pc' := 95) rfl rfl rfl ?_
  refine mi_wp_p (pc' := 97) rfl rfl rfl ?_
  refine mi_wp_p (pc' := 99) rfl rfl rfl ?_
  refine mi_wp_p (pc' := 100) rfl rfl rfl ?_
  refine mi_wp_p (pc' := 101) rfl rfl rfl ?_
  refine mi_wp_p (pc' := 104) rfl rfl rfl ?_
  refine mi_wp_p (pc' := 105) rfl rfl rfl ?_
  refine mi_wp_iask rfl rfl a2 (by decide +kernel) ?_
  intro h14 e1 e2 e3 e4 e5
  replace r0 := (e2 _ _ _).trans r0
  replace r1 := (e2 _ _ _).trans r1
  replace r2 := (e2 _ _ _).trans r2
  replace a2 := e1
  replace a1 := (e4 _).trans a1
  replace n99 := (e3 _ (by decide)).trans n99
  clear e1 e2 e3 e4 e5
  refine mi_wp_p (pc' := 107) rfl rfl rfl ?_
  refine mi_wp_p (pc' := 108) rfl rfl rfl ?_
  refine mi_wp_gf rfl rfl rfl r1 ?_
  refine mi_wp_p (pc' := 112) rfl rfl rfl ?_
  refine mi_wp_p (pc' := 113) rfl rfl rfl ?_
  refine mi_wp_pfk rfl rfl rfl r1 mi_fit_int (Or.inl rfl) ?_
  intro h15 e1 e2 e3 e4 e5
  replace r0 := e2 _ _ _ _ r0 (by decide)
  replace r1 := mi_eqi (y := 4) e1 (by decide +kernel)
  replace r2 := e2 _ _ _ _ r2 (by decide)
  replace a2 := (e3 _).trans a2
  replace a1 := (e4 _).trans a1
  replace n99 := (e3 _).trans n99
  clear e1 e2 e3 e4 e5
  refine mi_wp_p (pc' := 119) rfl rfl rfl ?_
  refine mi_wp_p (pc' := 80) rfl rfl rfl ?_
  refine mi_wp_l (l' := [(11, _), (10, _), (9, _), (8, _), (7, _), (6, _), (0, _), (1, _), (2, _), (3, _), (4, _), (5, _)]) rfl ?_
  refine mi_wp_p (pc' := 82) rfl rfl rfl ?_
  refine mi_wp_p (pc' := 122) rfl rfl (mi_br1 (b := true) (t := 122) (by decide +kernel) rfl) ?_
  refine mi_wp_p (pc' := 125) rfl rfl rfl ?_
  refine mi_wp_p (pc' := 63) rfl rfl rfl ?_
  refine mi_wp_l (l' := [(9, _), (11, _), (10, _), (8, _), (7, _), (6, _), (0, _), (1, _), (2, _), (3, _), (4, _), (5, _)]) rfl ?_
  refine mi_wp_p (pc' := 65) rfl rfl rfl ?_
  refine mi_wp_p (pc' := 67) rfl rfl rfl ?_
  refine mi_wp_p (pc' := 70) rfl rfl (mi_br2 (b := false) (t := 128) (by decide +kernel) rfl) ?_
  refine mi_wp_p (pc' := 72) rfl rfl rfl ?_
  refine mi_wp_p (pc' := 74) rfl rfl rfl ?_
  refine mi_wp_ials rfl rfl n99 (by decide +kernel) ?_
  refine mi_wp_p (pc' := 77) rfl rfl rfl ?_
  refine mi_wp_p (pc' := 78) rfl rfl rfl ?_
  refine mi_wp_p (pc' := 80) rfl rfl rfl ?_
  refine mi_wp_l (l' := [(11, _), (10, _), (9, _), (8, _), (7, _), (6, _), (0, _), (1, _), (2, _), (3, _), (4, _), (5, _)]) rfl ?_
  refine mi_wp_p (pc' := 82) rfl rfl rfl ?_
  refine mi_wp_p (pc' := 85) rfl rfl (mi_br1 (b := false) (t := 122) (by decide +kernel) rfl) ?_
  refine mi_wp_p (pc' := 86) rfl rfl rfl ?_
  refine mi_wp_gf rfl rfl rfl r2 ?_
  refine mi_wp_p (pc' := 90) rfl rfl rfl ?_
  refine mi_wp_gf rfl rfl rfl r1 ?_
  refine mi_wp_p (pc' := 95) rfl rfl rfl ?_
  refine mi_wp_p (pc' := 97) rfl rfl rfl ?_
  refine mi_wp_p (pc' := 99) rfl rfl rfl ?_
  refine mi_wp_p (pc' := 100) rfl rfl rfl ?_
  refine mi_wp_p (pc' := 101) rfl rfl rfl ?_
  refine mi_wp_p (pc' := 104) rfl rfl rfl ?_
  refine mi_wp_p (pc' := 105) rfl rfl rfl ?_
  refine mi_wp_iask rfl rfl a2 (by decide +kernel) ?_
  intro h16 e1 e2 e3 e4 e5
  replace r0 := (e2 _ _ _).trans r0
  replace r1 := (e2 _ _ _).trans r1
  replace r2 := (e2 _ _ _).trans r2
  replace a2 := e1
  replace a1 := (e4 _).trans a1
  replace n99 := (e3 _ (by decide)).trans n99
  clear e1 e2 e3 e4 e5
  refine mi_wp_p (pc' := 107) rfl rfl rfl ?_
  refine mi_wp_p (pc' := 108) rfl rfl rfl ?_
  refine mi_wp_gf rfl rfl rfl r1 ?_
  refine mi_wp_p (pc' := 112) rfl rfl rfl ?_
  refine mi_wp_p (pc' := 113) rfl rfl rfl ?_
  refine mi_wp_pfk rfl rfl rfl r1 mi_fit_int (Or.inl rfl) ?_
  intro h17 e1 e2 e3 e4 e5
  replace r0 := e2 _ _ _ _ r0 (by decide)
  replace r1 := mi_eqi (y := 5) e1 (by decide +kernel)
  replace r2 := e2 _ _ _ _ r2 (by decide)
  replace a2 := (e3 _).trans a2
  replace a1 := (e4 _).trans a1
  replace n99 := (e3 _).trans n99
  clear e1 e2 e3 e4 e5
  refine mi_wp_p (pc' := 119) rfl rfl rfl ?_
  refine mi_wp_p (pc' := 80) rfl rfl rfl ?_
  refine mi_wp_l (l' := [(11, _), (10, _), (9, _), (8, _), (7, _), (6, _), (0, _), (1, _), (2, _), (3, _), (4, _), (5, _)]) rfl ?_
  refine mi_wp_p (pc' := 82) rfl rfl rfl ?_
  refine mi_wp_p (pc' := 85) rfl rfl (mi_br1 (b := false) (t := 122) (by decide +kernel) rfl) ?_
  refine mi_wp_p (pc' := 86) rfl rfl rfl ?_
  refine mi_wp_gf rfl rfl rfl r2 ?_
  refine mi_wp_p (pc' := 90) rfl rfl rfl ?_
  refine mi_wp_gf rfl rfl rfl r1 ?_
  refine mi_wp_p (pc' := 95) rfl rfl rfl ?_
  refine mi_wp_p (pc' := 97) rfl rfl rfl ?_
  refine mi_wp_p (pc' := 99) rfl rfl rfl ?_
  refine mi_wp_p (pc' := 100) rfl rfl rfl ?_
  refine mi_wp_p (pc' := 101) rfl rfl rfl ?_
  refine mi_wp_p (pc' := 104) rfl rfl rfl ?_
  refine mi_wp_p (pc' := 105) rfl rfl rfl ?_
  refine mi_wp_iask rfl rfl a2 (by decide +kernel) ?_
  intro h18 e1 e2 e3 e4 e5
  replace r0 := (e2 _ _ _).trans r0
  replace r1 := (e2 _ _ _).trans r1
  replace r2 := (e2 _ _ _).trans r2
  replace a2 := e1
  replace a1 := (e4 _).trans a1
  replace n99 := (e3 _ (by decide)).trans n99
  clear e1 e2 e3 e4 e5
  refine mi_wp_p (pc' := 107) rfl rfl rfl ?_
  refine mi_wp_p (pc' := 108) rfl rfl rfl ?_
  refine mi_wp_gf rfl rfl rfl r1 ?_
  refine mi_wp_p (pc' := 112) rfl rfl rfl ?_
  refine mi_wp_p (pc' := 113) rfl rfl rfl ?_
  refine mi_wp_pfk rfl rfl rfl r1 mi_fit_int (Or.inl rfl) ?_
  intro h19 e1 e2 e3 e4 e5
  replace r0 := e2 _ _ _ _ r0 (by decide)
  replace r1 := mi_eqi (y := 6) e1 (by decide +kernel)
  replace r2 := e2 _ _ _ _ r2 (by decide)
  replace a2 := (e3 _).trans a2
  replace a1 := (e4 _).trans a1
  replace n99 := (e3 _).trans n99
  clear e1 e2 e3 e4 e5
  refine mi_wp_p (pc' := 119) rfl rfl rfl ?_
  refine mi_wp_p (pc' := 80) rfl rfl rfl ?_
  refine mi_wp_l (l' := [(11, _), (10, _), (9, _), (8, _), (7, _), (6, _), (0, _), (1, _), (2, _), (3, _), (4, _), (5, _)]) rfl ?_
  refine mi_wp_p (pc' := 82) rfl rfl rfl ?_
  refine mi_wp_p (pc' := 85) rfl rfl (mi_br1 (b := false) (t := 122) (by decide +kernel) rfl) ?_
  refine mi_wp_p (pc' := 86) rfl rfl rfl ?_
  refine mi_wp_gf rfl rfl rfl r2 ?_
  refine mi_wp_p (pc' := 90) rfl rfl rfl ?_
  refine mi_wp_gf rfl rfl rfl r1 ?_
  refine mi_wp_p (pc' := 95) rfl rfl rfl ?_
  refine mi_wp_p (pc' := 97) rfl rfl rfl ?_
  refine mi_wp_p (pc' := 99) rfl rfl rfl ?_
  refine mi_wp_p (pc' := 100) rfl rfl rfl ?_
  refine mi_wp_p (pc' := 101) rfl rfl rfl ?_
  refine mi_wp_p (pc' := 104) rfl rfl rfl ?_
  refine mi_wp_p (pc' := 105) rfl rfl rfl ?_
  refine mi_wp_iask rfl rfl a2 (by decide +kernel) ?_
  intro h20 e1 e2 e3 e4 e5
  replace r0 := (e2 _ _ _).trans r0
  replace r1 := (e2 _ _ _).trans r1
  replace r2 := (e2 _ _ _).trans r2
  replace a2 := e1
  replace a1 := (e4 _).trans a1
  replace n99 := (e3 _ (by decide)).trans n99
  clear e1 e2 e3 e4 e5
  refine mi_wp_p (pc' := 107) rfl rfl rfl ?_
  refine mi_wp_p (pc' := 108) rfl rfl rfl ?_
  refine mi_wp_gf rfl rfl rfl r1 ?_
  refine mi_wp_p (pc' := 112) rfl rfl rfl ?_
  refine mi_wp_p (pc' := 113) rfl rfl rfl ?_
  refine mi_wp_pfk rfl rfl rfl r1 mi_fit_int (Or.inl rfl) ?_
  intro h21 e1 e2 e3 e4 e5
  replace r0 := e2 _ _ _ _ r0 (by decide)
  replace r1 := mi_eqi (y := 7) e1 (by decide +kernel)
  replace r2 := e2 _ _ _ _ r2 (by decide)
  replace a2 := (e3 _).trans a2
  replace a1 := (e4 _).trans a1
  replace n99 := (e3 _).trans n99
  clear e1 e2 e3 e4 e5
  refine mi_wp_p (pc' := 119) rfl rfl rfl ?_
  refine mi_wp_p (pc' := 80) rfl rfl rfl ?_
  refine mi_wp_l (l' := [(11, _), (10, _), (9, _), (8, _), (7, _), (6, _), (0, _), (1, _), (2, _), (3, _), (4, _), (5, _)]) rfl ?_
  refine mi_wp_p (pc' := 82) rfl rfl rfl ?_
  refine mi_wp_p (pc' := 85) rfl rfl (mi_br1 (b := false) (t := 122) (by decide +kernel) rfl) ?_
  refine mi_wp_p (pc' := 86) rfl rfl rfl ?_
  refine mi_wp_gf rfl rfl rfl r2 ?_
  refine mi_wp_p (pc' := 90) rfl rfl rfl ?_
  refine mi_wp_gf rfl rfl rfl r1 ?_
  refine mi_wp_p (pc' := 95) rfl rfl rfl ?_
  refine mi_wp_p (pc' := 97) rfl rfl rfl ?_
  refine mi_wp_p (pc' := 99) rfl rfl rfl ?_
  refine mi_wp_p (pc' := 100) rfl rfl rfl ?_
  refine mi_wp_p (pc' := 101) rfl rfl rfl ?_
  refine mi_wp_p (pc' := 104) rfl rfl rfl ?_
  refine mi_wp_p (pc' := 105) rfl rfl rfl ?_
  refine mi_wp_iask rfl rfl a2 (by decide +kernel) ?_
  intro h22 e1 e2 e3 e4 e5
  replace r0 := (e2 _ _ _).trans r0
  replace r1 := (e2 _ _ _).trans r1
  replace r2 := (e2 _ _ _).trans r2
  replace a2 := e1
  replace a1 := (e4 _).trans a1
  replace n99 := (e3 _ (by decide)).trans n99
  clear e1 e2 e3 e4 e5
  refine mi_wp_p (pc' := 107) rfl rfl rfl ?_
  refine mi_wp_p (pc' := 108) rfl rfl rfl ?_
  refine mi_wp_gf rfl rfl rfl r1 ?_
  refine mi_wp_p (pc' := 112) rfl rfl rfl ?_
  refine mi_wp_p (pc' := 113) rfl rfl rfl ?_
  refine mi_wp_pfk rfl rfl rfl r1 mi_fit_int (Or.inl rfl) ?_
  intro h23 e1 e2 e3 e4 e5
  replace r0 := e2 _ _ _ _ r0 (by decide)
  replace r1 := mi_eqi (y := 8) e1 (by decide +kernel)
  replace r2 := e2 _ _ _ _ r2 (by decide)
  replace a2 := (e3 _).trans a2
  replace a1 := (e4 _).trans a1
  replace n99 := (e3 _).trans n99
  clear e1 e2 e3 e4 e5
  refine mi_wp_p (pc' := 119) rfl rfl rfl ?_
  refine mi_wp_p (pc' := 80) rfl rfl rfl ?_
  refine mi_wp_l (l' := [(11, _), (10, _), (9, _), (8, _), (7, _), (6, _), (0, _), (1, _), (2, _), (3, _), (4, _), (5, _)]) rfl ?_
  refine mi_wp_p (pc' := 82) rfl rfl rfl ?_
  refine mi_wp_p (pc' := 122) rfl rfl (mi_br1 (b := true) (t := 122) (by decide +kernel) rfl) ?_
  refine mi_wp_p (pc' := 125) rfl rfl rfl ?_
  refine mi_wp_p (pc' := 63) rfl rfl rfl ?_
  refine mi_wp_l (l' := [(9, _), (11, _), (10, _), (8, _), (7, _), (6, _), (0, _), (1, _), (2, _), (3, _), (4, _), (5, _)]) rfl ?_
  refine mi_wp_p (pc' := 65) rfl rfl rfl ?_
  refine mi_wp_p (pc' := 67) rfl rfl rfl ?_
  refine mi_wp_p (pc' := 70) rfl rfl (mi_br2 (b := false) (t := 128) (by decide +kernel) rfl) ?_
  refine mi_wp_p (pc' := 72) rfl rfl rfl ?_
  refine mi_wp_p (pc' := 74) rfl rfl rfl ?_
  refine mi_wp_ials rfl rfl n99 (by decide +kernel) ?_
  refine mi_wp_p (pc' := 77) rfl rfl rfl ?_
  refine mi_wp_p (pc' := 78) rfl rfl rfl ?_
  refine mi_wp_p (pc' := 80) rfl rfl rfl ?_
  refine mi_wp_l (l' := [(11, _), (10, _), (9, _), (8, _), (7, _), (6, _), (0, _), (1, _), (2, _), (3, _), (4, _), (5, _)]) rfl ?_
  refine mi_wp_p (pc' := 82) rfl rfl rfl ?_
  refine mi_wp_p (pc' := 85) rfl rfl (mi_br1 (b := false) (t := 122) (by decide +kernel) rfl) ?_
  refine mi_wp_p (pc' := 86) rfl rfl rfl ?_
  refine mi_wp_gf rfl rfl rfl r2 ?_
  refine mi_wp_p (pc' := 90) rfl rfl rfl ?_
  refine mi_wp_gf rfl rfl rfl r1 ?_
  refine mi_wp_p (pc' := 95) rfl rfl rfl ?_
  refine mi_wp_p (pc' := 97) rfl rfl rfl ?_
  refine mi_wp_p (pc' := 99) rfl rfl rfl ?_
  refine mi_wp_p (pc' := 100) rfl rfl rfl ?_
  refine mi_wp_p (pc' := 101) rfl rfl rfl ?_
  refine mi_wp_p (pc' := 104) rfl rfl rfl ?_
  refine mi_wp_p (pc' := 105) rfl rfl rfl ?_
  refine mi_wp_iask rfl rfl a2 (by decide +kernel) ?_
  intro h24 e1 e2 e3 e4 e5
  replace r0 := (e2 _ _ _).trans r0
  replace r1 := (e2 _ _ _).trans r1
  replace r2 := (e2 _ _ _).trans r2
  replace a2 := e1
  replace a1 := (e4 _).trans a1
  replace n99 := (e3 _ (by decide)).trans n99
  clear e1 e2 e3 e4 e5
  refine mi_wp_p (pc' := 107) rfl rfl rfl ?_
  refine mi_wp_p (pc' := 108) rfl rfl rfl ?_
  refine mi_wp_gf rfl rfl rfl r1 ?_
  refine mi_wp_p (pc' := 112) rfl rfl rfl ?_
  refine mi_wp_p (pc' := 113) rfl rfl rfl ?_
  refine mi_wp_pfk rfl rfl rfl r1 mi_fit_int (Or.inl rfl) ?_
  intro h25 e1 e2 e3 e4 e5
  replace r0 := e2 _ _ _ _ r0 (by decide)
  replace r1 := mi_eqi (y := 9) e1 (by decide +kernel)
  replace r2 := e2 _ _ _ _ r2 (by decide)
  replace a2 := (e3 _).trans a2
  replace a1 := (e4 _).trans a1
  replace n99 := (e3 _).trans n99
  clear e1 e2 e3 e4 e5
  refine mi_wp_p (pc' := 119) rfl rfl rfl ?_
  refine mi_wp_p (pc' := 80) rfl rfl rfl ?_
  refine mi_wp_l (l' := [(11, _), (10, _), (9, _), (8, _), (7, _), (6, _), (0, _), (1, _), (2, _), (3, _), (4, _), (5, _)]) rfl ?_
  refine mi_wp_p (pc' := 82) rfl rfl rfl ?_
  refine mi_wp_p (pc' := 85) rfl rfl (mi_br1 (b := false) (t := 122) (by decide +kernel) rfl) ?_
  refine mi_wp_p (pc' := 86) rfl rfl rfl ?_
  refine mi_wp_gf rfl rfl rfl r2 ?_
  refine mi_wp_p (pc' := 90) rfl rfl rfl ?_
  refine mi_wp_gf rfl rfl rfl r1 ?_
  refine mi_wp_p (pc' := 95) rfl rfl rfl ?_
  refine mi_wp_p (pc' := 97) rfl rfl rfl ?_
  refine mi_wp_p (pc' := 99) rfl rfl rfl ?_
  refine mi_wp_p (pc' := 100) rfl rfl rfl ?_
  refine mi_wp_p (pc' := 101) rfl rfl rfl ?_
  refine mi_wp_p (pc' := 104) rfl rfl rfl ?_
  refine mi_wp_p (pc' := 105) rfl rfl rfl ?_
  refine mi_wp_iask rfl rfl a2 (by decide +kernel) ?_
  intro h26 e1 e2 e3 e4 e5
  replace r0 := (e2 _ _ _).trans r0
  replace r1 := (e2 _ _ _).trans r1
  replace r2 := (e2 _ _ _).trans r2
  replace a2 := e1
  replace a1 := (e4 _).trans a1
  replace n99 := (e3 _ (by decide)).trans n99
  clear e1 e2 e3 e4 e5
  refine mi_wp_p (pc' := 107) rfl rfl rfl ?_
  refine mi_wp_p (pc' := 108) rfl rfl rfl ?_
  refine mi_wp_gf rfl rfl rfl r1 ?_
  refine mi_wp_p (pc' := 112) rfl rfl rfl ?_
  refine mi_wp_p (pc' := 113) rfl rfl rfl ?_
  refine mi_wp_pfk rfl rfl rfl r1 mi_fit_int (Or.inl rfl) ?_
  intro h27 e1 e2 e3 e4 e5
  replace r0 := e2 _ _ _ _ r0 (by decide)
  replace r1 := mi_eqi (y := 10) e1 (by decide +kernel)
  replace r2 := e2 _ _ _ _ r2 (by decide)
  replace a2 := (e3 _).trans a2
  replace a1 := (e4 _).trans a1
  replace n99 := (e3 _).trans n99
  clear e1 e2 e3 e4 e5
  refine mi_wp_p (pc' := 119) rfl rfl rfl ?_
  refine mi_wp_p (pc' := 80) rfl rfl rfl ?_
  refine mi_wp_l (l' := [(11, _), (10, _), (9, _), (8, _), (7, _), (6, _), (0, _), (1, _), (2, _), (3, _), (4, _), (5, _)]) rfl ?_
  refine mi_wp_p (pc' := 82) rfl rfl rfl ?_
  refine mi_wp_p (pc' := 85) rfl rfl (mi_br1 (b := false) (t := 122) (by decide +kernel) rfl) ?_
  refine mi_wp_p (pc' := 86) rfl rfl rfl ?_
  refine mi_wp_gf rfl rfl rfl r2 ?_
  refine mi_wp_p (pc' := 90) rfl rfl rfl ?_
  refine mi_wp_gf rfl rfl rfl r1 ?_
  refine mi_wp_p (pc' := 95) rfl rfl rfl ?_
  refine mi_wp_p (pc' := 97) rfl rfl rfl ?_
  refine mi_wp_p (pc' := 99) rfl rfl rfl ?_
  refine mi_wp_p (pc' := 100) rfl rfl rfl ?_
  refine mi_wp_p (pc' := 101) rfl rfl rfl ?_
  refine mi_wp_p (pc' := 104) rfl rfl rfl ?_
  refine mi_wp_p (pc' := 105) rfl rfl rfl ?_
  refine mi_wp_iask rfl rfl a2 (by decide +kernel) ?_
  intro h28 e1 e2 e3 e4 e5
  replace r0 := (e2 _ _ _).trans r0
  replace r1 := (e2 _ _ _).trans r1
  replace r2 := (e2 _ _ _).trans r2
  replace a2 := e1
  replace a1 := (e4 _).trans a1
  replace n99 := (e3 _ (by decide)).trans n99
  clear e1 e2 e3 e4 e5
  refine mi_wp_p (pc' := 107) rfl rfl rfl ?_
  refine mi_wp_p (pc' := 108) rfl rfl rfl ?_
  refine mi_wp_gf rfl rfl rfl r1 ?_
  refine mi_wp_p (pc' := 112) rfl rfl rfl ?_
  refine mi_wp_p (pc' := 113) rfl rfl rfl ?_
  refine mi_wp_pfk rfl rfl rfl r1 mi_fit_int (Or.inl rfl) ?_
  intro h29 e1 e2 e3 e4 e5
  replace r0 := e2 _ _ _ _ r0 (by decide)
  replace r1 := mi_eqi (y := 11) e1 (by decide +kernel)
  replace r2 := e2 _ _ _ _ r2 (by decide)
  replace a2 := (e3 _).trans a2
  replace a1 := (e4 _).trans a1
  replace n99 := (e3 _).trans n99
  clear e1 e2 e3 e4 e5
  refine mi_wp_p (pc' := 119) rfl rfl rfl ?_
  refine mi_wp_p (pc' := 80) rfl rfl rfl ?_
  refine mi_wp_l (l' := [(11, _), (10, _), (9, _), (8, _), (7, _), (6, _), (0, _), (1, _), (2, _), (3, _), (4, _), (5, _)]) rfl ?_
  refine mi_wp_p (pc' := 82) rfl rfl rfl ?_
  refine mi_wp_p (pc' := 85) rfl rfl (mi_br1 (b := false) (t := 122) (by decide +kernel) rfl) ?_
  refine mi_wp_p (pc' := 86) rfl rfl rfl ?_
  refine mi_wp_gf rfl rfl rfl r2 ?_
  refine mi_wp_p (pc' := 90) rfl rfl rfl ?_
  refine mi_wp_gf rfl rfl rfl r1 ?_
  refine mi_wp_p (pc' := 95) rfl rfl rfl ?_
  refine mi_wp_p (pc' := 97) rfl rfl rfl ?_
  refine mi_wp_p (pc' := 99) rfl rfl rfl ?_
  refine mi_wp_p (pc' := 100) rfl rfl rfl ?_
  refine mi_wp_p (pc' := 101) rfl rfl rfl ?_
  refine mi_wp_p (pc' := 104) rfl rfl rfl ?_
  refine mi_wp_p (pc' := 105) rfl rfl rfl ?_
  refine mi_wp_iask rfl rfl a2 (by decide +kernel) ?_
  intro h30 e1 e2 e3 e4 e5
  replace r0 := (e2 _ _ _).trans r0
  replace r1 := (e2 _ _ _).trans r1
  replace r2 := (e2 _ _ _).trans r2
  replace a2 := e1
  replace a1 := (e4 _).trans a1
  replace n99 := (e3 _ (by decide)).trans n99
  clear e1 e2 e3 e4 e5
  refine mi_wp_p (pc' := 107) rfl rfl rfl ?_
  refine mi_wp_p (pc' := 108) rfl rfl rfl ?_
  refine mi_wp_gf rfl rfl rfl r1 ?_
  refine mi_wp_p (pc' := 112) rfl rfl rfl ?_
  refine mi_wp_p (pc' := 113) rfl rfl rfl ?_
  refine mi_wp_pfk rfl rfl rfl r1 mi_fit_int (Or.inl rfl) ?_
  intro h31 e1 e2 e3 e4 e5
  replace r0 := e2 _ _ _ _ r0 (by decide)
  replace r1 := mi_eqi (y := 12) e1 (by decide +kernel)
  replace r2 := e2 _ _ _ _ r2 (by decide)
  replace a2 := (e3 _).trans a2
  replace a1 := (e4 _).trans a1
  replace n99 := (e3 _).trans n99
  clear e1 e2 e3 e4 e5
  refine mi_wp_p (pc' := 119) rfl rfl rfl ?_
  refine mi_wp_p (pc' := 80) rfl rfl rfl ?_
  refine mi_wp_l (l' := [(11, _), (10, _), (9, _), (8, _), (7, _), (6, _), (0, _), (1, _), (2, _), (3, _), (4, _), (5, _)]) rfl ?_
  refine mi_wp_p (pc' := 82) rfl rfl rfl ?_
  refine mi_wp_p (pc' := 122) rfl rfl (mi_br1 (b := true) (t := 122) (by decide +kernel) rfl) ?_
  refine mi_wp_p (pc' := 125) rfl rfl rfl ?_
  refine mi_wp_p (pc' := 63) rfl rfl rfl ?_
  refine mi_wp_l (l' := [(9, _), (11, _), (10, _), (8, _), (7, _), (6, _), (0, _), (1, _), (2, _), (3, _), (4, _), (5, _)]) rfl ?_
  refine mi_wp_p (pc' := 65) rfl rfl rfl ?_
  refine mi_wp_p (pc' := 67) rfl rfl rfl ?_
  refine mi_wp_p (pc' := 70) rfl rfl (mi_br2 (b := false) (t := 128) (by decide +kernel) rfl) ?_
  refine mi_wp_p (pc' := 72) rfl rfl rfl ?_
  refine mi_wp_p (pc' := 74) rfl rfl rfl ?_
  refine mi_wp_ials rfl rfl n99 (by decide +kernel) ?_
  refine mi_wp_p (pc' := 77) rfl rfl rfl ?_
  refine mi_wp_p (pc' := 78) rfl rfl rfl ?_
  refine mi_wp_p (pc' := 80) rfl rfl rfl ?_
  refine mi_wp_l (l' := [(11, _), (10, _), (9, _), (8, _), (7, _), (6, _), (0, _), (1, _), (2, _), (3, _), (4, _), (5, _)]) rfl ?_
  refine mi_wp_p (pc' := 82) rfl rfl rfl ?_
  refine mi_wp_p (pc' := 85) rfl rfl (mi_br1 (b := false) (t := 122) (by decide +kernel) rfl) ?_
  refine mi_wp_p (pc' := 86) rfl rfl rfl ?_
  refine mi_wp_gf rfl rfl rfl r2 ?_
  refine mi_wp_p (pc' := 90) rfl rfl rfl ?_
  refine mi_wp_gf rfl rfl rfl r1 ?_
  refine mi_wp_p (pc' := 95) rfl rfl rfl ?_
  refine mi_wp_p (pc' := 97) rfl rfl rfl ?_
  refine mi_wp_p (pc' := 99) rfl rfl rfl ?_
  refine mi_wp_p (pc' := 100) rfl rfl rfl ?_
  refine mi_wp_p (pc' := 101) rfl rfl rfl ?_
  refine mi_wp_p (pc' := 104) rfl rfl rfl ?_
  refine mi_wp_p (pc' := 105) rfl rfl rfl ?_
  refine mi_wp_iask rfl rfl a2 (by decide +kernel) ?_
  intro h32 e1 e2 e3 e4 e5
  replace r0 := (e2 _ _ _).trans r0
  replace r1 := (e2 _ _ _).trans r1
  replace r2 := (e2 _ _ _).trans r2
  replace a2 := e1
  replace a1 := (e4 _).trans a1
  replace n99 := (e3 _ (by decide)).trans n99
  clear e1 e2 e3 e4 e5
  refine mi_wp_p (pc' := 107) rfl rfl rfl ?_
  refine mi_wp_p (pc' := 108) rfl rfl rfl ?_
  refine mi_wp_gf rfl rfl rfl r1 ?_
  refine mi_wp_p (pc' := 112) rfl rfl rfl ?_
  refine mi_wp_p (pc' := 113) rfl rfl rfl ?_
  refine mi_wp_pfk rfl rfl rfl r1 mi_fit_int (Or.inl rfl) ?_
  intro h33 e1 e2 e3 e4 e5
  replace r0 := e2 _ _ _ _ r0 (by decide)
  replace r1 := mi_eqi (y := 13) e1 (by decide +kernel)
  replace r2 := e2 _ _ _ _ r2 (by decide)
  replace a2 := (e3 _).trans a2
  replace a1 := (e4 _).trans a1
  replace n99 := (e3 _).trans n99
  clear e1 e2 e3 e4 e5
  refine mi_wp_p (pc' := 119) rfl rfl rfl ?_
  refine mi_wp_p (pc' := 80) rfl rfl rfl ?_
  refine mi_wp_l (l' := [(11, _), (10, _), (9, _), (8, _), (7, _), (6, _), (0, _), (1, _), (2, _), (3, _), (4, _), (5, _)]) rfl ?_
  refine mi_wp_p (pc' := 82) rfl rfl rfl ?_
  refine mi_wp_p (pc' := 85) rfl rfl (mi_br1 (b := false) (t := 122) (by decide +kernel) rfl) ?_
  refine mi_wp_p (pc' := 86) rfl rfl rfl ?_
  refine mi_wp_gf rfl rfl rfl r2 ?_
  refine mi_wp_p (pc' := 90) rfl rfl rfl ?_
  refine mi_wp_gf rfl rfl rfl r1 ?_
  refine mi_wp_p (pc' := 95) rfl rfl rfl ?_
  refine mi_wp_p (pc' := 97) rfl rfl rfl ?_
  refine mi_wp_p (pc' := 99) rfl rfl rfl ?_
  refine mi_wp_p (pc' := 100) rfl rfl rfl ?_
  refine mi_wp_p (pc' := 101) rfl rfl rfl ?_
  refine mi_wp_p (pc' := 104) rfl rfl rfl ?_
  refine mi_wp_p (pc' := 105) rfl rfl rfl ?_
  refine mi_wp_iask rfl rfl a2 (by decide +kernel) ?_
  intro h34 e1 e2 e3 e4 e5
  replace r0 := (e2 _ _ _).trans r0
  replace r1 := (e2 _ _ _).trans r1
  replace r2 := (e2 _ _ _).trans r2
  replace a2 := e1
  replace a1 := (e4 _).trans a1
  replace n99 := (e3 _ (by decide)).trans n99
  clear e1 e2 e3 e4 e5
  refine mi_wp_p (pc' := 107) rfl rfl rfl ?_
  refine mi_wp_p (pc' := 108) rfl rfl rfl ?_
  refine mi_wp_gf rfl rfl rfl r1 ?_
  refine mi_wp_p (pc' := 112) rfl rfl rfl ?_
  refine mi_wp_p (pc' := 113) rfl rfl rfl ?_
  refine mi_wp_pfk rfl rfl rfl r1 mi_fit_int (Or.inl rfl) ?_
  intro h35 e1 e2 e3 e4 e5
  replace r0 := e2 _ _ _ _ r0 (by decide)
  replace r1 := mi_eqi (y := 14) e1 (by decide +kernel)
  replace r2 := e2 _ _ _ _ r2 (by decide)
  replace a2 := (e3 _).trans a2
  replace a1 := (e4 _).trans a1
  replace n99 := (e3 _).trans n99
  clear e1 e2 e3 e4 e5
  refine mi_wp_p (pc' := 119) rfl rfl rfl ?_
  refine mi_wp_p (pc' := 80) rfl rfl rfl ?_
  refine mi_wp_l (l' := [(11, _), (10, _), (9, _), (8, _), (7, _), (6, _), (0, _), (1, _), (2, _), (3, _), (4, _), (5, _)]) rfl ?_
  refine mi_wp_p (pc' := 82) rfl rfl rfl ?_
  refine mi_wp_p (pc' := 85) rfl rfl (mi_br1 (b := false) (t := 122) (by decide +kernel) rfl) ?_
  refine mi_wp_p (pc' := 86) rfl rfl rfl ?_
  refine mi_wp_gf rfl rfl rfl r2 ?_
  refine mi_wp_p (pc' := 90) rfl rfl rfl ?_
  refine mi_wp_gf rfl rfl rfl r1 ?_
  refine mi_wp_p (pc' := 95) rfl rfl rfl ?_
  refine mi_wp_p (pc' := 97) rfl rfl rfl ?_
  refine mi_wp_p (pc' := 99) rfl rfl rfl ?_
  refine mi_wp_p (pc' := 100) rfl rfl rfl ?_
  refine mi_wp_p (pc' := 101) rfl rfl rfl ?_
  refine mi_wp_p (pc' := 104) rfl rfl rfl ?_
  refine mi_wp_p (pc' := 105) rfl rfl rfl ?_
  refine mi_wp_iask rfl rfl a2 (by decide +kernel) ?_
  intro h36 e1 e2 e3 e4 e5
  replace r0 := (e2 _ _ _).trans r0
  replace r1 := (e2 _ _ _).trans r1
  replace r2 := (e2 _ _ _).trans r2
  replace a2 := e1
  replace a1 := (e4 _).trans a1
  replace n99 := (e3 _ (by decide)).trans n99
  clear e1 e2 e3 e4 e5
  refine mi_wp_p (pc' := 107) rfl rfl rfl ?_
  refine mi_wp_p (pc' := 108) rfl rfl rfl ?_
  refine mi_wp_gf rfl rfl rfl r1 ?_
  refine mi_wp_p (pc' := 112) rfl rfl rfl ?_
  refine mi_wp_p (pc' := 113) rfl rfl rfl ?_
  refine mi_wp_pfk rfl rfl rfl r1 mi_fit_int (Or.inl rfl) ?_
  intro h37 e1 e2 e3 e4 e5
  replace r0 := e2 _ _ _ _ r0 (by decide)
  replace r1 := mi_eqi (y := 15) e1 (by decide +kernel)
  replace r2 := e2 _ _ _ _ r2 (by decide)
  replace a2 := (e3 _).trans a2
  replace a1 := (e4 _).trans a1
  replace n99 := (e3 _).trans n99
  clear e1 e2 e3 e4 e5
  refine mi_wp_p (pc' := 119) rfl rfl rfl ?_
  refine mi_wp_p (pc' := 80) rfl rfl rfl ?_
  refine mi_wp_l (l' := [(11, _), (10, _), (9, _), (8, _), (7, _), (6, _), (0, _), (1, _), (2, _), (3, _), (4, _), (5, _)]) rfl ?_
  refine mi_wp_p (pc' := 82) rfl rfl rfl ?_
  refine mi_wp_p (pc' := 85) rfl rfl (mi_br1 (b := false) (t := 122) (by decide +kernel) rfl) ?_
  refine mi_wp_p (pc' := 86) rfl rfl rfl ?_
  refine mi_wp_gf rfl rfl rfl r2 ?_
  refine mi_wp_p (pc' := 90) rfl rfl rfl ?_
  refine mi_wp_gf rfl rfl rfl r1 ?_
  refine mi_wp_p (pc' := 95) rfl rfl rfl ?_
  refine mi_wp_p (pc' := 97) rfl rfl rfl ?_
  refine mi_wp_p (pc' := 99) rfl rfl rfl ?_
  refine mi_wp_p (pc' := 100) rfl rfl rfl ?_
  refine mi_wp_p (pc' := 101) rfl rfl rfl ?_
  refine mi_wp_p (pc' := 104) rfl rfl rfl ?_
  refine mi_wp_p (pc' := 105) rfl rfl rfl ?_
  refine mi_wp_iask rfl rfl a2 (by decide +kernel) ?_
  intro h38 e1 e2 e3 e4 e5
  replace r0 := (e2 _ _ _).trans r0
  replace r1 := (e2 _ _ _).trans r1
  replace r2 := (e2 _ _ _).trans r2
  replace a2 := e1
  replace a1 := (e4 _).trans a1
  replace n99 := (e3 _ (by decide)).trans n99
  clear e1 e2 e3 e4 e5
  refine mi_wp_p (pc' := 107) rfl rfl rfl ?_
  refine mi_wp_p (pc' := 108) rfl rfl rfl ?_
  refine mi_wp_gf rfl rfl rfl r1 ?_
  refine mi_wp_p (pc' := 112) rfl rfl rfl ?_
  refine mi_wp_p (pc' := 113) rfl rfl rfl ?_
  refine mi_wp_pfk rfl rfl rfl r1 mi_fit_int (Or.inl rfl) ?_
  intro h39 e1 e2 e3 e4 e5
  replace r0 := e2 _ _ _ _ r0 (by decide)
  replace r1 := mi_eqi (y := 16) e1 (by decide +kernel)
  replace r2 := e2 _ _ _ _ r2 (by decide)
  replace a2 := (e3 _).trans a2
  replace a1 := (e4 _).trans a1
  replace n99 := (e3 _).trans n99
  clear e1 e2 e3 e4 e5
  refine mi_wp_p (pc' := 119) rfl rfl rfl ?_
  refine mi_wp_p (pc' := 80) rfl rfl rfl ?_
  refine mi_wp_l (l' := [(11, _), (10, _), (9, _), (8, _), (7, _), (6, _), (0, _), (1, _), (2, _), (3, _), (4, _), (5, _)]) rfl ?_
  refine mi_wp_p (pc' := 82) rfl rfl rfl ?_
  refine mi_wp_p (pc' := 122) rfl rfl (mi_br1 (b := true) (t := 122) (by decide +kernel) rfl) ?_
  refine mi_wp_p (pc' := 125) rfl rfl rfl ?_
  refine mi_wp_p (pc' := 63) rfl rfl rfl ?_
  refine mi_wp_l (l' := [(9, _), (11, _), (10, _), (8, _), (7, _), (6, _), (0, _), (1, _), (2, _), (3, _), (4, _), (5, _)]) rfl ?_
  refine mi_wp_p (pc' := 65) rfl rfl rfl ?_
  refine mi_wp_p (pc' := 67) rfl rfl rfl ?_
  refine mi_wp_p (pc' := 70) rfl rfl (mi_br2 (b := false) (t := 128) (by decide +kernel) rfl) ?_
  refine mi_wp_p (pc' := 72) rfl rfl rfl ?_
  refine mi_wp_p (pc' := 74) rfl rfl rfl ?_
  refine mi_wp_ials rfl rfl n99 (by decide +kernel) ?_
  refine mi_wp_p (pc' := 77) rfl rfl rfl ?_
  refine mi_wp_p (pc' := 78) rfl rfl rfl ?_
  refine mi_wp_p (pc' := 80) rfl rfl rfl ?_
  refine mi_wp_l (l' := [(11, _), (10, _), (9, _), (8, _), (7, _), (6, _), (0, _), (1, _), (2, _), (3, _), (4, _), (5, _)]) rfl ?_
  refine mi_wp_p (pc' := 82) rfl rfl rfl ?_
  refine mi_wp_p (pc' := 85) rfl rfl (mi_br1 (b := false) (t := 122) (by decide +kernel) rfl) ?_
  refine mi_wp_p (pc' := 86) rfl rfl rfl ?_
  refine mi_wp_gf rfl rfl rfl r2 ?_
  refine mi_wp_p (pc' := 90) rfl rfl rfl ?_
  refine mi_wp_gf rfl rfl rfl r1 ?_
  refine mi_wp_p (pc' := 95) rfl rfl rfl ?_
  refine mi_wp_p (pc' := 97) rfl rfl rfl ?_
  refine mi_wp_p (pc' := 99) rfl rfl rfl ?_
  refine mi_wp_p (pc' := 100) rfl rfl rfl ?_
  refine mi_wp_p (pc' := 101) rfl rfl rfl ?_
  refine mi_wp_p (pc' := 104) rfl rfl rfl ?_
  refine mi_wp_p (pc' := 105) rfl rfl rfl ?_
  refine mi_wp_iask rfl rfl a2 (by decide +kernel) ?_
  intro h40 e1 e2 e3 e4 e5
  replace r0 := (e2 _ _ _).trans r0
  replace r1 := (e2 _ _ _).trans r1
  replace r2 := (e2 _ _ _).trans r2
  replace a2 := e1
  replace a1 := (e4 _).trans a1
  replace n99 := (e3 _ (by decide)).trans n99
  clear e1 e2 e3 e4 e5
  refine mi_wp_p (pc' := 107) rfl rfl rfl ?_
  refine mi_wp_p (pc' := 108) rfl rfl rfl ?_
  refine mi_wp_gf rfl rfl rfl r1 ?_
  refine mi_wp_p (pc' := 112) rfl rfl rfl ?_
  refine mi_wp_p (pc' := 113) rfl rfl rfl ?_
  refine mi_wp_pfk rfl rfl rfl r1 mi_fit_int (Or.inl rfl) ?_
  intro h41 e1 e2 e3 e4 e5
  replace r0 := e2 _ _ _ _ r0 (by decide)
  replace r1 := mi_eqi (y := 17) e1 (by decide +kernel)
  replace r2 := e2 _ _ _ _ r2 (by decide)
  replace a2 := (e3 _).trans a2
  replace a1 := (e4 _).trans a1
  replace n99 := (e3 _).trans n99
  clear e1 e2 e3 e4 e5
  refine mi_wp_p (pc' := 119) rfl rfl rfl ?_
  refine mi_wp_p (pc' := 80) rfl rfl rfl ?_
  refine mi_wp_l (l' := [(11, _), (10, _), (9, _), (8, _), (7, _), (6, _), (0, _), (1, _), (2, _), (3, _), (4, _), (5, _)]) rfl ?_
  refine mi_wp_p (pc' := 82) rfl rfl rfl ?_
  refine mi_wp_p (pc' := 85) rfl rfl (mi_br1 (b := false) (t := 122) (by decide +kernel) rfl) ?_
  refine mi_wp_p (pc' := 86) rfl rfl rfl ?_
  refine mi_wp_gf rfl rfl rfl r2 ?_
  refine mi_wp_p (pc' := 90) rfl rfl rfl ?_
  refine mi_wp_gf rfl rfl rfl r1 ?_
  refine mi_wp_p (pc' := 95) rfl rfl rfl ?_
  refine mi_wp_p (pc' := 97) rfl rfl rfl ?_
  refine mi_wp_p (pc' := 99) rfl rfl rfl ?_
  refine mi_wp_p (pc' := 100) rfl rfl rfl ?_
  refine mi_wp_p (pc' := 101) rfl rfl rfl ?_
  refine mi_wp_p (pc' := 104) rfl rfl rfl ?_
  refine mi_wp_p (pc' := 105) rfl rfl rfl ?_
  refine mi_wp_iask rfl rfl a2 (by decide +kernel) ?_
  intro h42 e1 e2 e3 e4 e5
  replace r0 := (e2 _ _ _).trans r0
  replace r1 := (e2 _ _ _).trans r1
  replace r2 := (e2 _ _ _).trans r2
  replace a2 := e1
  replace a1 := (e4 _).trans a1
  replace n99 := (e3 _ (by decide)).trans n99
  clear e1 e2 e3 e4 e5
  refine mi_wp_p (pc' := 107) rfl rfl rfl ?_
  refine mi_wp_p (pc' := 108) rfl rfl rfl ?_
  refine mi_wp_gf rfl rfl rfl r1 ?_
  refine mi_wp_p (pc' := 112) rfl rfl rfl ?_
  refine mi_wp_p (pc' := 113) rfl rfl rfl ?_
  refine mi_wp_pfk rfl rfl rfl r1 mi_fit_int (Or.inl rfl) ?_
  intro h43 e1 e2 e3 e4 e5
  replace r0 := e2 _ _ _ _ r0 (by decide)
  replace r1 := mi_eqi (y := 18) e1 (by decide +kernel)
  replace r2 := e2 _ _ _ _ r2 (by decide)
  replace a2 := (e3 _).trans a2
  replace a1 := (e4 _).trans a1
  replace n99 := (e3 _).trans n99
  clear e1 e2 e3 e4 e5
  refine mi_wp_p (pc' := 119) rfl rfl rfl ?_
  refine mi_wp_p (pc' := 80) rfl rfl rfl ?_
  refine mi_wp_l (l' := [(11, _), (10, _), (9, _), (8, _), (7, _), (6, _), (0, _), (1, _), (2, _), (3, _), (4, _), (5, _)]) rfl ?_
  refine mi_wp_p (pc' := 82) rfl rfl rfl ?_
  refine mi_wp_p (pc' := 85) rfl rfl (mi_br1 (b := false) (t := 122) (by decide +kernel) rfl) ?_
  refine mi_wp_p (pc' := 86) rfl rfl rfl ?_
  refine mi_wp_gf rfl rfl rfl r2 ?_
  refine mi_wp_p (pc' := 90) rfl rfl rfl ?_
  refine mi_wp_gf rfl rfl rfl r1 ?_
  refine mi_wp_p (pc' := 95) rfl rfl rfl ?_
  refine mi_wp_p (pc' := 97) rfl rfl rfl ?_
  refine mi_wp_p (pc' := 99) rfl rfl rfl ?_
  refine mi_wp_p (pc' := 100) rfl rfl rfl ?_
  refine mi_wp_p (pc' := 101) rfl rfl rfl ?_
  refine mi_wp_p (pc' := 104) rfl rfl rfl ?_
  refine mi_wp_p (pc' := 105) rfl rfl rfl ?_
  refine mi_wp_iask rfl rfl a2 (by decide +kernel) ?_
  intro h44 e1 e2 e3 e4 e5
  replace r0 := (e2 _ _ _).trans r0
  replace r1 := (e2 _ _ _).trans r1
  replace r2 := (e2 _ _ _).trans r2
  replace a2 := e1
  replace a1 := (e4 _).trans a1
  replace n99 := (e3 _ (by decide)).trans n99
  clear e1 e2 e3 e4 e5
  refine mi_wp_p (pc' := 107) rfl rfl rfl ?_
  refine mi_wp_p (pc' := 108) rfl rfl rfl ?_
  refine mi_wp_gf rfl rfl rfl r1 ?_
  refine mi_wp_p (pc' := 112) rfl rfl rfl ?_
  refine mi_wp_p (pc' := 113) rfl rfl rfl ?_
  refine mi_wp_pfk rfl rfl rfl r1 mi_fit_int (Or.inl rfl) ?_
  intro h45 e1 e2 e3 e4 e5
  replace r0 := e2 _ _ _ _ r0 (by decide)
  replace r1 := mi_eqi (y := 19) e1 (by decide +kernel)
  replace r2 := e2 _ _ _ _ r2 (by decide)
  replace a2 := (e3 _).trans a2
  replace a1 := (e4 _).trans a1
  replace n99 := (e3 _).trans n99
  clear e1 e2 e3 e4 e5
  refine mi_wp_p (pc' := 119) rfl rfl rfl ?_
  refine mi_wp_p (pc' := 80) rfl rfl rfl ?_
  refine mi_wp_l (l' := [(11, _), (10, _), (9, _), (8, _), (7, _), (6, _), (0, _), (1, _), (2, _), (3, _), (4, _), (5, _)]) rfl ?_
  refine mi_wp_p (pc' := 82) rfl rfl rfl ?_
  refine mi_wp_p (pc' := 85) rfl rfl (mi_br1 (b := false) (t := 122) (by decide +kernel) rfl) ?_
  refine mi_wp_p (pc' := 86) rfl rfl rfl ?_
  refine mi_wp_gf rfl rfl rfl r2 ?_
  refine mi_wp_p (pc' := 90) rfl rfl rfl ?_
  refine mi_wp_gf rfl rfl rfl r1 ?_
  refine mi_wp_p (pc' := 95) rfl rfl rfl ?_
  refine mi_wp_p (pc' := 97) rfl rfl rfl ?_
  refine mi_wp_p (pc' := 99) rfl rfl rfl ?_
  refine mi_wp_p (pc' := 100) rfl rfl rfl ?_
  refine mi_wp_p (pc' := 101) rfl rfl rfl ?_
  refine mi_wp_p (pc' := 104) rfl rfl rfl ?_
  refine mi_wp_p (pc' := 105) rfl rfl rfl ?_
  refine mi_wp_iask rfl rfl a2 (by decide +kernel) ?_
  intro h46 e1 e2 e3 e4 e5
  replace r0 := (e2 _ _ _).trans r0
  replace r1 := (e2 _ _ _).trans r1
  replace r2 := (e2 _ _ _).trans r2
  replace a2 := e1
  replace a1 := (e4 _).trans a1
  replace n99 := (e3 _ (by decide)).trans n99
  clear e1 e2 e3 e4 e5
  refine mi_wp_p (pc' := 107) rfl rfl rfl ?_
  refine mi_wp_p (pc' := 108) rfl rfl rfl ?_
  refine mi_wp_gf rfl rfl rfl r1 ?_
  refine mi_wp_p (pc' := 112) rfl rfl rfl ?_
  refine mi_wp_p (pc' := 113) rfl rfl rfl ?_
  refine mi_wp_pfk rfl rfl rfl r1 mi_fit_int (Or.inl rfl) ?_
  intro h47 e1 e2 e3 e4 e5
  replace r0 := e2 _ _ _ _ r0 (by decide)
  replace r1 := mi_eqi (y := 20) e1 (by decide +kernel)
  replace r2 := e2 _ _ _ _ r2 (by decide)
  replace a2 := (e3 _).trans a2
  replace a1 := (e4 _).trans a1
  replace n99 := (e3 _).trans n99
  clear e1 e2 e3 e4 e5
  refine mi_wp_p (pc' := 119) rfl rfl rfl ?_
  refine mi_wp_p (pc' := 80) rfl rfl rfl ?_
  refine mi_wp_l (l' := [(11, _), (10, _), (9, _), (8, _), (7, _), (6, _), (0, _), (1, _), (2, _), (3, _), (4, _), (5, _)]) rfl ?_
  refine mi_wp_p (pc' := 82) rfl rfl rfl ?_
  refine mi_wp_p (pc' := 122) rfl rfl (mi_br1 (b := true) (t := 122) (by decide +kernel) rfl) ?_
  refine mi_wp_p (pc' := 125) rfl rfl rfl ?_
  refine mi_wp_p (pc' := 63) rfl rfl rfl ?_
  refine mi_wp_l (l' := [(9, _), (11, _), (10, _), (8, _), (7, _), (6, _), (0, _), (1, _), (2, _), (3, _), (4, _), (5, _)]) rfl ?_
  refine mi_wp_p (pc' := 65) rfl rfl rfl ?_
  refine mi_wp_p (pc' := 67) rfl rfl rfl ?_
  refine mi_wp_p (pc' := 128) rfl rfl (mi_br2 (b := true) (t := 128) (by decide +kernel) rfl) ?_
  refine mi_wp_p (pc' := 129) rfl rfl rfl ?_
  refine mi_wp_gf rfl rfl rfl r1 ?_
  exact mi_wp_r rfl rfl rfl rfl ⟨_, rfl, r0, a1⟩
set_option maxRecDepth 100000 in
theorem mi_L_feed {xs : Nat → Int32} {h : mi_H} {c s : Nat} {x1 x2 x3 x4 x5 : Int32} (q1 : xs 1 = x1) (q2 : xs 2 = x2) (q3 : xs 3 = x3) (q4 : xs 4 = x4) (q5 : xs 5 = x5) {f : Nat → Int64} {g g2 : Nat → Int32} (f0 : mi_fv h 0 10 10 = some (.int 0)) (g1 : mi_fv h 0 10 0 = some (.ref 1)) (r0 : mi_fv h 55 11 0 = some (.int 0)) (r1 : mi_fv h 55 11 2 = some (.int 0)) (r2 : mi_fv h 55 11 1 = some (.ref 56)) (a0 : mi_ai h 1 = some (2, 1200, g)) (a2 : mi_ai h 56 = some (0, 1200, g2)) (a1 : mi_al h 98 = some (1, f)) (hl : h.length = 99) : mi_wp (some (6, xs)) 21 mi_ML 120 [(4, .int (Int32.ofInt 0)), (3, .ref 98), (2, .ref 55), (1, .ref 0), (0, .retAddr 3)] [] h c s (fun z => ∃ h' c' s', z = (.inl (some (.int (Int32.ofInt 1))), h', c', s') ∧ c' ≤ c + 5000 ∧ s' ≤ s + 50000) := by
  refine mi_wp_p (pc' := 121) rfl rfl rfl ?_
  refine mi_wp_p (pc' := 122) rfl rfl rfl ?_
  refine mi_wp_p (pc' := 124) rfl rfl rfl ?_
  refine mi_wp_p (pc' := 125) rfl rfl rfl ?_
  refine mi_wp_p (pc' := 126) rfl rfl rfl ?_
  refine mi_wp_sld rfl rfl (by decide +kernel) (k := 1) (by decide +kernel) q1 ?_
  refine mi_wp_p (pc' := 128) rfl rfl rfl ?_
  refine mi_wp_p (pc' := 130) rfl rfl rfl ?_
  refine mi_wp_p (pc' := 131) rfl rfl rfl ?_
  refine mi_wp_p (pc' := 132) rfl rfl rfl ?_
  refine mi_wp_sld rfl rfl (by decide +kernel) (k := 2) (by decide +kernel) q2 ?_
  refine mi_wp_p (pc' := 134) rfl rfl rfl ?_
  refine mi_wp_p (pc' := 136) rfl rfl rfl ?_
  refine mi_wp_p (pc' := 137) rfl rfl rfl ?_
  refine mi_wp_p (pc' := 138) rfl rfl rfl ?_
  refine mi_wp_sld rfl rfl (by decide +kernel) (k := 3) (by decide +kernel) q3 ?_
  refine mi_wp_p (pc' := 140) rfl rfl rfl ?_
  refine mi_wp_p (pc' := 142) rfl rfl rfl ?_
  refine mi_wp_p (pc' := 143) rfl rfl rfl ?_
  refine mi_wp_p (pc' := 144) rfl rfl rfl ?_
  refine mi_wp_sld rfl rfl (by decide +kernel) (k := 4) (by decide +kernel) q4 ?_
  refine mi_wp_p (pc' := 146) rfl rfl rfl ?_
  refine mi_wp_p (pc' := 148) rfl rfl rfl ?_
  refine mi_wp_p (pc' := 149) rfl rfl rfl ?_
  refine mi_wp_p (pc' := 150) rfl rfl rfl ?_
  refine mi_wp_sld rfl rfl (by decide +kernel) (k := 5) (by decide +kernel) q5 ?_
  refine mi_wp_p (pc' := 152) rfl rfl rfl ?_
  refine mi_wp_ce rfl rfl rfl rfl rfl rfl (mi_cal_s (np := 7) rfl rfl (Or.inr rfl) rfl (Nat.le_of_ble_eq_true rfl) (Nat.le_of_ble_eq_true rfl)) (Nat.le_of_ble_eq_true rfl) (mi_l_feed f0 g1 r0 r1 r2 a0 a2 a1 hl) ?_
  intro h1 q9
  obtain ⟨r0, r1, r2, a2, hl, f1, a1, g9⟩ := q9
  refine mi_wp_p (pc' := 157) rfl rfl rfl ?_
  refine mi_wp_p (pc' := 158) rfl rfl rfl ?_
  refine mi_wp_p (pc' := 159) rfl rfl rfl ?_
  refine mi_wp_p (pc' := 161) rfl rfl rfl ?_
  refine mi_wp_p (pc' := 162) rfl rfl rfl ?_
  refine mi_wp_p (pc' := 163) rfl rfl rfl ?_
  refine mi_wp_sld rfl rfl (by decide +kernel) (k := 1) (by decide +kernel) q1 ?_
  refine mi_wp_p (pc' := 165) rfl rfl rfl ?_
  refine mi_wp_p (pc' := 167) rfl rfl rfl ?_
  refine mi_wp_p (pc' := 168) rfl rfl rfl ?_
  refine mi_wp_p (pc' := 169) rfl rfl rfl ?_
  refine mi_wp_sld rfl rfl (by decide +kernel) (k := 2) (by decide +kernel) q2 ?_
  refine mi_wp_p (pc' := 171) rfl rfl rfl ?_
  refine mi_wp_p (pc' := 173) rfl rfl rfl ?_
  refine mi_wp_p (pc' := 174) rfl rfl rfl ?_
  refine mi_wp_p (pc' := 175) rfl rfl rfl ?_
  refine mi_wp_sld rfl rfl (by decide +kernel) (k := 3) (by decide +kernel) q3 ?_
  refine mi_wp_p (pc' := 177) rfl rfl rfl ?_
  refine mi_wp_p (pc' := 179) rfl rfl rfl ?_
  refine mi_wp_p (pc' := 180) rfl rfl rfl ?_
  refine mi_wp_p (pc' := 181) rfl rfl rfl ?_
  refine mi_wp_sld rfl rfl (by decide +kernel) (k := 4) (by decide +kernel) q4 ?_
  refine mi_wp_p (pc' := 183) rfl rfl rfl ?_
  refine mi_wp_p (pc' := 185) rfl rfl rfl ?_
  refine mi_wp_p (pc' := 186) rfl rfl rfl ?_
  refine mi_wp_p (pc' := 187) rfl rfl rfl ?_
  refine mi_wp_sld rfl rfl (by decide +kernel) (k := 5) (by decide +kernel) q5 ?_
  refine mi_wp_ce rfl rfl rfl rfl rfl rfl (mi_cal_v (np := 5) rfl rfl rfl rfl (Nat.le_of_ble_eq_true rfl) (Nat.le_of_ble_eq_true rfl) (mi_rc_of r0)) (Nat.le_of_ble_eq_true rfl) (mi_r_feed r0 r1 r2 a2 a1 hl) ?_
  intro h2 q9
  obtain ⟨r0, a1⟩ := q9
  have e5 : (Int32.ofInt 5).toNatClampNeg = 5 := by decide +kernel
  refine mi_wp_p (pc' := 193) rfl rfl rfl ?_
  refine mi_wp_p (pc' := 194) rfl rfl rfl ?_
  refine mi_wp_c1 rfl rfl rfl rfl rfl rfl (mi_cal_v (np := 0) rfl rfl rfl rfl (Nat.le_of_ble_eq_true rfl) (Nat.le_of_ble_eq_true rfl) (mi_rc_of r0)) (Nat.le_of_ble_eq_true rfl) (mi_r_thrown r0) ?_
  refine mi_wp_p (pc' := 199) rfl rfl rfl ?_
  refine mi_wp_p (pc' := 204) rfl rfl (mi_br2 (b := true) (t := 204) (by decide +kernel) rfl) ?_
  refine mi_wp_p (pc' := 206) rfl rfl rfl ?_
  refine mi_wp_p (pc' := 209) rfl rfl (mi_br1 (b := false) (t := 221) (by decide +kernel) rfl) ?_
  refine mi_wp_p (pc' := 210) rfl rfl rfl ?_
  refine mi_wp_p (pc' := 211) rfl rfl rfl ?_
  refine mi_wp_laldv rfl rfl a1 (by decide +kernel) (by decide +kernel) g9 ?_
  refine mi_wp_p (pc' := 214) rfl rfl rfl ?_
  refine mi_wp_p (pc' := 215) rfl rfl rfl ?_
  refine mi_wp_p (pc' := 216) rfl rfl rfl ?_
  refine mi_wp_p (pc' := 221) rfl rfl (mi_br1 (b := true) (t := 221) (by decide +kernel) rfl) ?_
  refine mi_wp_p (pc' := 933) rfl rfl rfl ?_
  refine mi_wp_p (pc' := 936) rfl rfl rfl ?_
  refine mi_wp_p (pc' := 23) rfl rfl rfl ?_
  refine mi_wp_p (pc' := 25) rfl rfl rfl ?_
  refine mi_wp_p (pc' := 26) rfl rfl rfl ?_
  refine mi_wp_slen rfl rfl ?_
  refine mi_wp_p (pc' := 29) rfl rfl rfl ?_
  refine mi_wp_p (pc' := 30) rfl rfl rfl ?_
  refine mi_wp_p (pc' := 939) rfl rfl (mi_br2 (b := true) (t := 939) (by decide +kernel) rfl) ?_
  refine mi_wp_p (pc' := 940) rfl rfl rfl ?_
  exact mi_wp_r rfl rfl rfl rfl ⟨_, _, _, rfl, by omega, by omega⟩
