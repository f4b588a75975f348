/-! ===== the law reads the paper (printed by wip/gen/p_law9.py) ===== -/
section LW
variable {X : mi_X} {h : mi_H} {σ : mi_Sg}
set_option maxRecDepth 100000 in
theorem rd_turn0 {rw nx a : Nat} {tx k : Nat} {b : Int} {l : List Int} {g : Nat → Int} {c s : Nat} {Q : mi_Z → Prop} (S : ty_H h σ) (A_tx : LA h tx l.length g) (b55_tx : 55 ≤ tx) (hl : l.length ≤ 400) (hk : k < l.length) (e0 : mi_sF σ 52 5 = (l.length : Int)) (eb : mi_sA σ 53 (k : Int) = b)
    (kk : ∀ h', ty_H h' σ → LA h' tx l.length (va_up g ((k : Int)).toNat b) → LG h h' [tx] → mi_wp X 82 mi_ML 234 [(7, .int (Int32.ofInt ((k : Int) + 1))), (6, .ref tx), (5, .int (Int32.ofInt (l.length : Int))), (4, .int (Int32.ofInt (a : Int))), (3, .ref nx), (2, .ref rw), (1, .ref 0), (0, .retAddr 3)] [] h' c s Q) : mi_wp X 82 mi_ML 234 [(7, .int (Int32.ofInt (k : Int))), (6, .ref tx), (5, .int (Int32.ofInt (l.length : Int))), (4, .int (Int32.ofInt (a : Int))), (3, .ref nx), (2, .ref rw), (1, .ref 0), (0, .retAddr 3)] [] h c s Q := by
  have fr := LG_rf h [tx]
  refine mi_wp_p (pc' := 236) (st' := [.int (Int32.ofInt (k : Int))]) rfl rfl rfl ?_
  refine mi_wp_p (pc' := 238) (st' := [.int (Int32.ofInt (l.length : Int)), .int (Int32.ofInt (k : Int))]) rfl rfl rfl ?_
  refine mi_s_if2 (t := 258) rfl rfl rfl (by unfold mi_R; omega) (by unfold mi_R; omega) (fun hc_ => absurd (show (l.length : Int) ≤ (k : Int) from hc_) (by omega)) (fun _ => ?_)
  refine mi_wp_p (pc' := 243) (st' := [.ref tx]) rfl rfl rfl ?_
  refine mi_wp_p (pc' := 245) (st' := [.int (Int32.ofInt (k : Int)), .ref tx]) rfl rfl rfl ?_
  refine mi_wp_p (pc' := 246) (st' := [.ref 0, .int (Int32.ofInt (k : Int)), .ref tx]) rfl rfl rfl ?_
  refine mi_wp_p (pc' := 248) (st' := [.int (Int32.ofInt (k : Int)), .ref 0, .int (Int32.ofInt (k : Int)), .ref tx]) rfl rfl rfl ?_
  refine ls_ti rfl rfl rfl rfl rfl rfl (mi_cal_v2 (np := 1) (args := [.ref 0, .int (Int32.ofInt (k : Int))]) (rest := [.int (Int32.ofInt (k : Int)), .ref tx]) rfl rfl rfl rfl rfl (Nat.le_of_ble_eq_true rfl) rfl rfl (Nat.le_of_ble_eq_true rfl) (ty_rcS S (List.mem_of_getElem? (i := 0) rfl))) (Nat.le_of_ble_eq_true rfl) S (tl_byteAt (by omega) (by omega) (by omega)) ?_
  intro x hh σ1 S f P
  obtain ⟨P, P2⟩ := P
  rw [P2] at S
  clear P2
  replace A_tx := LA_M A_tx f b55_tx
  replace fr := LG_tr0 fr (LG_M f)
  rw [P, eb]
  clear P
  refine ls_ast A_tx rfl rfl (by omega) (by omega) (by omega) ?_
  intro h1_ A_tx f
  replace S := ty_H_F1 S f (by omega)
  replace fr := LG_tr1 fr (LG_F f) (Or.inl (by simp))
  refine mi_s_inc (l' := [(7, .int (Int32.ofInt ((k : Int) + 1))), (6, .ref tx), (5, .int (Int32.ofInt (l.length : Int))), (4, .int (Int32.ofInt (a : Int))), (3, .ref nx), (2, .ref rw), (1, .ref 0), (0, .retAddr 3)]) rfl rfl rfl (by decide) rfl ?_
  refine mi_wp_p (pc' := 234) rfl rfl rfl ?_
  exact kk _ S A_tx fr
set_option maxRecDepth 100000 in
theorem rd_end0 {rw nx a : Nat} {tx : Nat} {l : List Int} {c s : Nat} {Q : mi_Z → Prop} (hl : l.length ≤ 400) (kk : mi_wp X 82 mi_ML 258 [(7, .int (Int32.ofInt (l.length : Int))), (6, .ref tx), (5, .int (Int32.ofInt (l.length : Int))), (4, .int (Int32.ofInt (a : Int))), (3, .ref nx), (2, .ref rw), (1, .ref 0), (0, .retAddr 3)] [] h c s Q) : mi_wp X 82 mi_ML 234 [(7, .int (Int32.ofInt (l.length : Int))), (6, .ref tx), (5, .int (Int32.ofInt (l.length : Int))), (4, .int (Int32.ofInt (a : Int))), (3, .ref nx), (2, .ref rw), (1, .ref 0), (0, .retAddr 3)] [] h c s Q := by
  refine mi_wp_p (pc' := 236) (st' := [.int (Int32.ofInt (l.length : Int))]) rfl rfl rfl ?_
  refine mi_wp_p (pc' := 238) (st' := [.int (Int32.ofInt (l.length : Int)), .int (Int32.ofInt (l.length : Int))]) rfl rfl rfl ?_
  refine mi_s_if2 (t := 258) rfl rfl rfl (by unfold mi_R; omega) (by unfold mi_R; omega) (fun _ => ?_) (fun hc_ => absurd (show (l.length : Int) ≤ (l.length : Int) by omega) hc_)
  exact kk
set_option maxRecDepth 100000 in
theorem rd_loop0 {rw nx a : Nat} {tx : Nat} {l : List Int} {c s : Nat} {Q : mi_Z → Prop} (b55_tx : 55 ≤ tx) (hl : l.length ≤ 400) (p : rwl σ 53 5 l)
    (kk : ∀ h', ty_H h' σ → LB h' tx l → LG h h' [tx] → mi_wp X 82 mi_ML 258 [(7, .int (Int32.ofInt (l.length : Int))), (6, .ref tx), (5, .int (Int32.ofInt (l.length : Int))), (4, .int (Int32.ofInt (a : Int))), (3, .ref nx), (2, .ref rw), (1, .ref 0), (0, .retAddr 3)] [] h' c s Q) : ∀ (m k : Nat), m + k = l.length → ∀ (h1 : mi_H) (g : Nat → Int), ty_H h1 σ → LA h1 tx l.length g → LG h h1 [tx] → (∀ (i : Nat) (b : Int), i < k → l[i]? = some b → g i = b) → mi_wp X 82 mi_ML 234 [(7, .int (Int32.ofInt (k : Int))), (6, .ref tx), (5, .int (Int32.ofInt (l.length : Int))), (4, .int (Int32.ofInt (a : Int))), (3, .ref nx), (2, .ref rw), (1, .ref 0), (0, .retAddr 3)] [] h1 c s Q := by
  intro m
  induction m with
  | zero =>
    intro k hk h1 g S A fr hg
    obtain rfl : k = l.length := by omega
    exact rd_end0 hl (kk h1 S ⟨g, A, fun i b hb => hg i b (List.getElem?_eq_some_iff.mp hb).1 hb⟩ fr)
  | succ m ih =>
    intro k hk h1 g S A fr hg
    have hlt : k < l.length := by omega
    refine rd_turn0 S A b55_tx hl hlt p.1 (p.2 k _ (List.getElem?_eq_getElem hlt)) (fun h2 S2 A2 f2 => ?_)
    rw [show (k : Int) + 1 = ((k + 1 : Nat) : Int) by omega]
    refine ih (k + 1) (by omega) h2 _ S2 A2 (LG_tr fr f2 (fun q m => Or.inl m)) (fun i b hi hb => ?_)
    rw [Int.toNat_natCast]
    by_cases e : i = k
    · subst e
      rw [va_up_self]
      rw [List.getElem?_eq_getElem hlt] at hb
      exact Option.some.inj hb
    · rw [va_up_ne _ _ e]
      exact hg i b (by omega) hb
set_option maxRecDepth 100000 in
theorem rd_turn1 {rw nx a : Nat} {l8 l9 : Int} {tx k : Nat} {b : Int} {l : List Int} {g : Nat → Int} {c s : Nat} {Q : mi_Z → Prop} (S : ty_H h σ) (A_tx : LA h tx l.length g) (b55_tx : 55 ≤ tx) (hl : l.length ≤ 400) (hk : k < l.length) (e0 : mi_sF σ 52 5 = (l.length : Int)) (eb : mi_sA σ 53 (k : Int) = b)
    (kk : ∀ h', ty_H h' σ → LA h' tx l.length (va_up g ((k : Int)).toNat b) → LG h h' [tx] → mi_wp X 82 mi_ML 234 [(7, .int (Int32.ofInt ((k : Int) + 1))), (6, .ref tx), (5, .int (Int32.ofInt (l.length : Int))), (4, .int (Int32.ofInt (a : Int))), (8, .int (Int32.ofInt l8)), (9, .int (Int32.ofInt l9)), (3, .ref nx), (2, .ref rw), (1, .ref 0), (0, .retAddr 3)] [] h' c s Q) : mi_wp X 82 mi_ML 234 [(7, .int (Int32.ofInt (k : Int))), (6, .ref tx), (5, .int (Int32.ofInt (l.length : Int))), (4, .int (Int32.ofInt (a : Int))), (8, .int (Int32.ofInt l8)), (9, .int (Int32.ofInt l9)), (3, .ref nx), (2, .ref rw), (1, .ref 0), (0, .retAddr 3)] [] h c s Q := by
  have fr := LG_rf h [tx]
  refine mi_wp_p (pc' := 236) (st' := [.int (Int32.ofInt (k : Int))]) rfl rfl rfl ?_
  refine mi_wp_p (pc' := 238) (st' := [.int (Int32.ofInt (l.length : Int)), .int (Int32.ofInt (k : Int))]) rfl rfl rfl ?_
  refine mi_s_if2 (t := 258) rfl rfl rfl (by unfold mi_R; omega) (by unfold mi_R; omega) (fun hc_ => absurd (show (l.length : Int) ≤ (k : Int) from hc_) (by omega)) (fun _ => ?_)
  refine mi_wp_p (pc' := 243) (st' := [.ref tx]) rfl rfl rfl ?_
  refine mi_wp_p (pc' := 245) (st' := [.int (Int32.ofInt (k : Int)), .ref tx]) rfl rfl rfl ?_
  refine mi_wp_p (pc' := 246) (st' := [.ref 0, .int (Int32.ofInt (k : Int)), .ref tx]) rfl rfl rfl ?_
  refine mi_wp_p (pc' := 248) (st' := [.int (Int32.ofInt (k : Int)), .ref 0, .int (Int32.ofInt (k : Int)), .ref tx]) rfl rfl rfl ?_
  refine ls_ti rfl rfl rfl rfl rfl rfl (mi_cal_v2 (np := 1) (args := [.ref 0, .int (Int32.ofInt (k : Int))]) (rest := [.int (Int32.ofInt (k : Int)), .ref tx]) rfl rfl rfl rfl rfl (Nat.le_of_ble_eq_true rfl) rfl rfl (Nat.le_of_ble_eq_true rfl) (ty_rcS S (List.mem_of_getElem? (i := 0) rfl))) (Nat.le_of_ble_eq_true rfl) S (tl_byteAt (by omega) (by omega) (by omega)) ?_
  intro x hh σ1 S f P
  obtain ⟨P, P2⟩ := P
  rw [P2] at S
  clear P2
  replace A_tx := LA_M A_tx f b55_tx
  replace fr := LG_tr0 fr (LG_M f)
  rw [P, eb]
  clear P
  refine ls_ast A_tx rfl rfl (by omega) (by omega) (by omega) ?_
  intro h2_ A_tx f
  replace S := ty_H_F1 S f (by omega)
  replace fr := LG_tr1 fr (LG_F f) (Or.inl (by simp))
  refine mi_s_inc (l' := [(7, .int (Int32.ofInt ((k : Int) + 1))), (6, .ref tx), (5, .int (Int32.ofInt (l.length : Int))), (4, .int (Int32.ofInt (a : Int))), (8, .int (Int32.ofInt l8)), (9, .int (Int32.ofInt l9)), (3, .ref nx), (2, .ref rw), (1, .ref 0), (0, .retAddr 3)]) rfl rfl rfl (by decide) rfl ?_
  refine mi_wp_p (pc' := 234) rfl rfl rfl ?_
  exact kk _ S A_tx fr
set_option maxRecDepth 100000 in
theorem rd_end1 {rw nx a : Nat} {l8 l9 : Int} {tx : Nat} {l : List Int} {c s : Nat} {Q : mi_Z → Prop} (hl : l.length ≤ 400) (kk : mi_wp X 82 mi_ML 258 [(7, .int (Int32.ofInt (l.length : Int))), (6, .ref tx), (5, .int (Int32.ofInt (l.length : Int))), (4, .int (Int32.ofInt (a : Int))), (8, .int (Int32.ofInt l8)), (9, .int (Int32.ofInt l9)), (3, .ref nx), (2, .ref rw), (1, .ref 0), (0, .retAddr 3)] [] h c s Q) : mi_wp X 82 mi_ML 234 [(7, .int (Int32.ofInt (l.length : Int))), (6, .ref tx), (5, .int (Int32.ofInt (l.length : Int))), (4, .int (Int32.ofInt (a : Int))), (8, .int (Int32.ofInt l8)), (9, .int (Int32.ofInt l9)), (3, .ref nx), (2, .ref rw), (1, .ref 0), (0, .retAddr 3)] [] h c s Q := by
  refine mi_wp_p (pc' := 236) (st' := [.int (Int32.ofInt (l.length : Int))]) rfl rfl rfl ?_
  refine mi_wp_p (pc' := 238) (st' := [.int (Int32.ofInt (l.length : Int)), .int (Int32.ofInt (l.length : Int))]) rfl rfl rfl ?_
  refine mi_s_if2 (t := 258) rfl rfl rfl (by unfold mi_R; omega) (by unfold mi_R; omega) (fun _ => ?_) (fun hc_ => absurd (show (l.length : Int) ≤ (l.length : Int) by omega) hc_)
  exact kk
set_option maxRecDepth 100000 in
theorem rd_loop1 {rw nx a : Nat} {l8 l9 : Int} {tx : Nat} {l : List Int} {c s : Nat} {Q : mi_Z → Prop} (b55_tx : 55 ≤ tx) (hl : l.length ≤ 400) (p : rwl σ 53 5 l)
    (kk : ∀ h', ty_H h' σ → LB h' tx l → LG h h' [tx] → mi_wp X 82 mi_ML 258 [(7, .int (Int32.ofInt (l.length : Int))), (6, .ref tx), (5, .int (Int32.ofInt (l.length : Int))), (4, .int (Int32.ofInt (a : Int))), (8, .int (Int32.ofInt l8)), (9, .int (Int32.ofInt l9)), (3, .ref nx), (2, .ref rw), (1, .ref 0), (0, .retAddr 3)] [] h' c s Q) : ∀ (m k : Nat), m + k = l.length → ∀ (h1 : mi_H) (g : Nat → Int), ty_H h1 σ → LA h1 tx l.length g → LG h h1 [tx] → (∀ (i : Nat) (b : Int), i < k → l[i]? = some b → g i = b) → mi_wp X 82 mi_ML 234 [(7, .int (Int32.ofInt (k : Int))), (6, .ref tx), (5, .int (Int32.ofInt (l.length : Int))), (4, .int (Int32.ofInt (a : Int))), (8, .int (Int32.ofInt l8)), (9, .int (Int32.ofInt l9)), (3, .ref nx), (2, .ref rw), (1, .ref 0), (0, .retAddr 3)] [] h1 c s Q := by
  intro m
  induction m with
  | zero =>
    intro k hk h1 g S A fr hg
    obtain rfl : k = l.length := by omega
    exact rd_end1 hl (kk h1 S ⟨g, A, fun i b hb => hg i b (List.getElem?_eq_some_iff.mp hb).1 hb⟩ fr)
  | succ m ih =>
    intro k hk h1 g S A fr hg
    have hlt : k < l.length := by omega
    refine rd_turn1 S A b55_tx hl hlt p.1 (p.2 k _ (List.getElem?_eq_getElem hlt)) (fun h2 S2 A2 f2 => ?_)
    rw [show (k : Int) + 1 = ((k + 1 : Nat) : Int) by omega]
    refine ih (k + 1) (by omega) h2 _ S2 A2 (LG_tr fr f2 (fun q m => Or.inl m)) (fun i b hi hb => ?_)
    rw [Int.toNat_natCast]
    by_cases e : i = k
    · subst e
      rw [va_up_self]
      rw [List.getElem?_eq_getElem hlt] at hb
      exact Option.some.inj hb
    · rw [va_up_ne _ _ e]
      exact hg i b (by omega) hb
set_option maxRecDepth 100000 in
theorem rd_turn2 {rw nx nm : Nat} {l8 l9 : Int} {tx k : Nat} {b : Int} {l : List Int} {g : Nat → Int} {c s : Nat} {Q : mi_Z → Prop} (S : ty_H h σ) (A_tx : LA h tx l.length g) (b55_tx : 55 ≤ tx) (hl : l.length ≤ 400) (hk : k < l.length) (e0 : mi_sF σ 52 5 = (l.length : Int)) (eb : mi_sA σ 53 (k : Int) = b)
    (kk : ∀ h', ty_H h' σ → LA h' tx l.length (va_up g ((k : Int)).toNat b) → LG h h' [tx] → mi_wp X 82 mi_ML 595 [(6, .int (Int32.ofInt ((k : Int) + 1))), (5, .ref tx), (4, .int (Int32.ofInt (l.length : Int))), (8, .int (Int32.ofInt l8)), (9, .int (Int32.ofInt l9)), (7, .ref nm), (3, .ref nx), (2, .ref rw), (1, .ref 0), (0, .retAddr 3)] [] h' c s Q) : mi_wp X 82 mi_ML 595 [(6, .int (Int32.ofInt (k : Int))), (5, .ref tx), (4, .int (Int32.ofInt (l.length : Int))), (8, .int (Int32.ofInt l8)), (9, .int (Int32.ofInt l9)), (7, .ref nm), (3, .ref nx), (2, .ref rw), (1, .ref 0), (0, .retAddr 3)] [] h c s Q := by
  have fr := LG_rf h [tx]
  refine mi_wp_p (pc' := 597) (st' := [.int (Int32.ofInt (k : Int))]) rfl rfl rfl ?_
  refine mi_wp_p (pc' := 599) (st' := [.int (Int32.ofInt (l.length : Int)), .int (Int32.ofInt (k : Int))]) rfl rfl rfl ?_
  refine mi_s_if2 (t := 619) rfl rfl rfl (by unfold mi_R; omega) (by unfold mi_R; omega) (fun hc_ => absurd (show (l.length : Int) ≤ (k : Int) from hc_) (by omega)) (fun _ => ?_)
  refine mi_wp_p (pc' := 604) (st' := [.ref tx]) rfl rfl rfl ?_
  refine mi_wp_p (pc' := 606) (st' := [.int (Int32.ofInt (k : Int)), .ref tx]) rfl rfl rfl ?_
  refine mi_wp_p (pc' := 607) (st' := [.ref 0, .int (Int32.ofInt (k : Int)), .ref tx]) rfl rfl rfl ?_
  refine mi_wp_p (pc' := 609) (st' := [.int (Int32.ofInt (k : Int)), .ref 0, .int (Int32.ofInt (k : Int)), .ref tx]) rfl rfl rfl ?_
  refine ls_ti rfl rfl rfl rfl rfl rfl (mi_cal_v2 (np := 1) (args := [.ref 0, .int (Int32.ofInt (k : Int))]) (rest := [.int (Int32.ofInt (k : Int)), .ref tx]) rfl rfl rfl rfl rfl (Nat.le_of_ble_eq_true rfl) rfl rfl (Nat.le_of_ble_eq_true rfl) (ty_rcS S (List.mem_of_getElem? (i := 0) rfl))) (Nat.le_of_ble_eq_true rfl) S (tl_byteAt (by omega) (by omega) (by omega)) ?_
  intro x hh σ1 S f P
  obtain ⟨P, P2⟩ := P
  rw [P2] at S
  clear P2
  replace A_tx := LA_M A_tx f b55_tx
  replace fr := LG_tr0 fr (LG_M f)
  rw [P, eb]
  clear P
  refine ls_ast A_tx rfl rfl (by omega) (by omega) (by omega) ?_
  intro h3_ A_tx f
  replace S := ty_H_F1 S f (by omega)
  replace fr := LG_tr1 fr (LG_F f) (Or.inl (by simp))
  refine mi_s_inc (l' := [(6, .int (Int32.ofInt ((k : Int) + 1))), (5, .ref tx), (4, .int (Int32.ofInt (l.length : Int))), (8, .int (Int32.ofInt l8)), (9, .int (Int32.ofInt l9)), (7, .ref nm), (3, .ref nx), (2, .ref rw), (1, .ref 0), (0, .retAddr 3)]) rfl rfl rfl (by decide) rfl ?_
  refine mi_wp_p (pc' := 595) rfl rfl rfl ?_
  exact kk _ S A_tx fr
set_option maxRecDepth 100000 in
theorem rd_end2 {rw nx nm : Nat} {l8 l9 : Int} {tx : Nat} {l : List Int} {c s : Nat} {Q : mi_Z → Prop} (hl : l.length ≤ 400) (kk : mi_wp X 82 mi_ML 619 [(6, .int (Int32.ofInt (l.length : Int))), (5, .ref tx), (4, .int (Int32.ofInt (l.length : Int))), (8, .int (Int32.ofInt l8)), (9, .int (Int32.ofInt l9)), (7, .ref nm), (3, .ref nx), (2, .ref rw), (1, .ref 0), (0, .retAddr 3)] [] h c s Q) : mi_wp X 82 mi_ML 595 [(6, .int (Int32.ofInt (l.length : Int))), (5, .ref tx), (4, .int (Int32.ofInt (l.length : Int))), (8, .int (Int32.ofInt l8)), (9, .int (Int32.ofInt l9)), (7, .ref nm), (3, .ref nx), (2, .ref rw), (1, .ref 0), (0, .retAddr 3)] [] h c s Q := by
  refine mi_wp_p (pc' := 597) (st' := [.int (Int32.ofInt (l.length : Int))]) rfl rfl rfl ?_
  refine mi_wp_p (pc' := 599) (st' := [.int (Int32.ofInt (l.length : Int)), .int (Int32.ofInt (l.length : Int))]) rfl rfl rfl ?_
  refine mi_s_if2 (t := 619) rfl rfl rfl (by unfold mi_R; omega) (by unfold mi_R; omega) (fun _ => ?_) (fun hc_ => absurd (show (l.length : Int) ≤ (l.length : Int) by omega) hc_)
  exact kk
set_option maxRecDepth 100000 in
theorem rd_loop2 {rw nx nm : Nat} {l8 l9 : Int} {tx : Nat} {l : List Int} {c s : Nat} {Q : mi_Z → Prop} (b55_tx : 55 ≤ tx) (hl : l.length ≤ 400) (p : rwl σ 53 5 l)
    (kk : ∀ h', ty_H h' σ → LB h' tx l → LG h h' [tx] → mi_wp X 82 mi_ML 619 [(6, .int (Int32.ofInt (l.length : Int))), (5, .ref tx), (4, .int (Int32.ofInt (l.length : Int))), (8, .int (Int32.ofInt l8)), (9, .int (Int32.ofInt l9)), (7, .ref nm), (3, .ref nx), (2, .ref rw), (1, .ref 0), (0, .retAddr 3)] [] h' c s Q) : ∀ (m k : Nat), m + k = l.length → ∀ (h1 : mi_H) (g : Nat → Int), ty_H h1 σ → LA h1 tx l.length g → LG h h1 [tx] → (∀ (i : Nat) (b : Int), i < k → l[i]? = some b → g i = b) → mi_wp X 82 mi_ML 595 [(6, .int (Int32.ofInt (k : Int))), (5, .ref tx), (4, .int (Int32.ofInt (l.length : Int))), (8, .int (Int32.ofInt l8)), (9, .int (Int32.ofInt l9)), (7, .ref nm), (3, .ref nx), (2, .ref rw), (1, .ref 0), (0, .retAddr 3)] [] h1 c s Q := by
  intro m
  induction m with
  | zero =>
    intro k hk h1 g S A fr hg
    obtain rfl : k = l.length := by omega
    exact rd_end2 hl (kk h1 S ⟨g, A, fun i b hb => hg i b (List.getElem?_eq_some_iff.mp hb).1 hb⟩ fr)
  | succ m ih =>
    intro k hk h1 g S A fr hg
    have hlt : k < l.length := by omega
    refine rd_turn2 S A b55_tx hl hlt p.1 (p.2 k _ (List.getElem?_eq_getElem hlt)) (fun h2 S2 A2 f2 => ?_)
    rw [show (k : Int) + 1 = ((k + 1 : Nat) : Int) by omega]
    refine ih (k + 1) (by omega) h2 _ S2 A2 (LG_tr fr f2 (fun q m => Or.inl m)) (fun i b hi hb => ?_)
    rw [Int.toNat_natCast]
    by_cases e : i = k
    · subst e
      rw [va_up_self]
      rw [List.getElem?_eq_getElem hlt] at hb
      exact Option.some.inj hb
    · rw [va_up_ne _ _ e]
      exact hg i b (by omega) hb
end LW
