/-! ===== the law's type, behind, show (printed by wip/gen/p_law3.py) ===== -/
theorem LT_lt {h : mi_H} {a n : Nat} {bs : List Int} (A : LT h a n bs) : a < h.length := by
  obtain ⟨g, A, -⟩ := A
  exact LA_lt A
theorem LT_F {h h' : mi_H} {a n : Nat} {bs : List Int} {w : List Nat} (A : LT h a n bs) (f : LF h h' w) (hn : a ∉ w) : LT h' a n bs := by
  obtain ⟨g, A, r⟩ := A
  exact ⟨g, LA_F A f hn, r⟩
theorem LT_F0 {h h' : mi_H} {a n : Nat} {bs : List Int} (A : LT h a n bs) (f : LF h h' []) : LT h' a n bs := LT_F A f (by simp)
theorem LT_F1 {h h' : mi_H} {a b n : Nat} {bs : List Int} (A : LT h a n bs) (f : LF h h' [b]) (hn : a ≠ b) : LT h' a n bs := LT_F A f (by simpa using hn)
theorem LT_M {h h' : mi_H} {a n : Nat} {bs : List Int} (A : LT h a n bs) (f : mi_Fm h h') (ha : 55 ≤ a) : LT h' a n bs := by
  obtain ⟨g, A, r⟩ := A
  exact ⟨g, LA_M A f ha, r⟩
theorem LT_e {h : mi_H} {a n : Nat} {bs bs' : List Int} (A : LT h a n bs) (e : bs = bs') : LT h a n bs' := e ▸ A
/-- a type as the law keeps it: its parts' kinds, one behind the other -/
def kds : tr → List Int
  | .var v => [if v = 2 then 2 else if v = 0 then 3 else 4]
  | .add (.num t) (.add a (.add b _)) => if t = 5 then 5 :: (kds a ++ kds b) else if t = 6 then 6 :: (kds a ++ kds b) else if t = 9 then 7 :: kds a else if t = 1 then [0] else [1]
  | _ => []
theorem kds_v {v : Nat} : kds (.var v) = [if v = 2 then 2 else if v = 0 then 3 else 4] := rfl
theorem kds_1 : kds (tn 1 tr_0 tr_0 tr_0) = [0] := rfl
theorem kds_2 : kds (tn 2 tr_0 tr_0 tr_0) = [1] := rfl
theorem kds_5 {a b : tr} : kds (tn 5 a b tr_0) = 5 :: (kds a ++ kds b) := by unfold tn; rw [kds]; rfl
theorem kds_6 {a b : tr} : kds (tn 6 a b tr_0) = 6 :: (kds a ++ kds b) := by unfold tn; rw [kds]; rfl
theorem kds_9 {a : tr} : kds (tn 9 a tr_0 tr_0) = 7 :: kds a := by unfold tn; rw [kds]; rfl
theorem pz_tn9 (a : tr) : pz (tn 9 a tr_0 tr_0) = 1 + pz a := by
  rw [pz_tn (by decide), show pz tr_0 = 0 from rfl]
  omega
theorem kds_len : ∀ (m : Nat) (e : tr), hg e ≤ m → wt e → ((kds e).length : Int) = pz e := by
  intro m
  induction m with
  | zero =>
    intro e hm hw
    rcases wt_c hw with ⟨v, rfl⟩ | (rfl | rfl) | ⟨a, b, wa, wb, rfl | rfl⟩ | ⟨a, wa, rfl⟩
    · rfl
    · rw [hg_tn] at hm; omega
    · rw [hg_tn] at hm; omega
    · rw [hg_tn] at hm; omega
    · rw [hg_tn] at hm; omega
    · rw [hg_tn] at hm; omega
  | succ m ih =>
    intro e hm hw
    rcases wt_c hw with ⟨v, rfl⟩ | (rfl | rfl) | ⟨a, b, wa, wb, rfl | rfl⟩ | ⟨a, wa, rfl⟩
    · rfl
    · rfl
    · rfl
    · rw [hg_tn] at hm
      have ha := ih a (by omega) wa
      have hb := ih b (by omega) wb
      rw [kds_5, pz_tn5, List.length_cons, List.length_append]
      omega
    · rw [hg_tn] at hm
      have ha := ih a (by omega) wa
      have hb := ih b (by omega) wb
      rw [kds_6, pz_tn6, List.length_cons, List.length_append]
      omega
    · rw [hg_tn] at hm
      have ha := ih a (by omega) wa
      rw [kds_9, pz_tn9, List.length_cons]
      omega
/-- the row g holds l from place i on -/
def RX (g : Nat → Int) (i : Nat) (l : List Int) : Prop := ∀ (j : Nat) (x : Int), l[j]? = some x → g (i + j) = x
theorem RX_c {g : Nat → Int} {i : Nat} {x : Int} {l : List Int} (h : RX g i (x :: l)) : g i = x ∧ RX g (i + 1) l :=
  ⟨h 0 x rfl, fun j y hy => by have := h (j + 1) y (by rw [List.getElem?_cons_succ]; exact hy); rw [show i + 1 + j = i + (j + 1) by omega]; exact this⟩
theorem RX_a {g : Nat → Int} {i : Nat} {l l' : List Int} (h : RX g i (l ++ l')) : RX g i l ∧ RX g (i + l.length) l' :=
  ⟨fun j y hy => h j y (by rw [List.getElem?_append_left (List.getElem?_eq_some_iff.mp hy).1]; exact hy), fun j y hy => by
    have := h (l.length + j) y (by rw [List.getElem?_append_right (by omega), Nat.add_sub_cancel_left]; exact hy)
    rw [show i + l.length + j = i + (l.length + j) by omega]
    exact this⟩
theorem RX_cons {g : Nat → Int} {i : Nat} {x : Int} {l : List Int} (h : g i = x) (r : RX g (i + 1) l) : RX g i (x :: l) := fun j y hy => by
  cases j with
  | zero => cases hy; exact h
  | succ j =>
    rw [List.getElem?_cons_succ] at hy
    have := r j y hy
    rw [show i + (j + 1) = i + 1 + j by omega]
    exact this
theorem RX_app {g : Nat → Int} {i : Nat} {l l' : List Int} (h : RX g i l) (r : RX g (i + l.length) l') : RX g i (l ++ l') := fun j y hy => by
  by_cases hj : j < l.length
  · rw [List.getElem?_append_left hj] at hy
    exact h j y hy
  · rw [List.getElem?_append_right (by omega)] at hy
    have := r _ y hy
    rw [show i + l.length + (j - l.length) = i + j by omega] at this
    exact this
theorem RX_keep {g g' : Nat → Int} {i : Nat} {l : List Int} (h : RX g i l) (k : ∀ j, 0 < j → j < i + l.length → g' j = g j) (i0 : 0 < i) : RX g' i l := fun j y hy => by
  have := (List.getElem?_eq_some_iff.mp hy).1
  rw [k _ (by omega) (by omega)]
  exact h j y hy
/-- parts of a type of m more levels -/
def lvB : Nat → Nat
  | 0 => 1
  | m + 1 => 1 + 2 * lvB m
def TL (m : Nat) (e : tr) : Prop := wt e ∧ hg e ≤ m + 1 ∧ (∀ v, vin v e → v < 3) ∧ pz e ≤ lvB m
theorem lvB_1 (m : Nat) : 1 ≤ lvB m := by cases m <;> simp [lvB]
theorem TL_leaf {m : Nat} {k : Int} (h0 : 0 ≤ k) (h1 : k < 5) : ∃ e, TL m e ∧ pz e = 1 ∧ kds e = [k] := by
  have b1 := lvB_1 m
  obtain rfl | rfl | rfl | rfl | rfl : k = 0 ∨ k = 1 ∨ k = 2 ∨ k = 3 ∨ k = 4 := by omega
  · exact ⟨tn 1 tr_0 tr_0 tr_0, ⟨wt_1, by rw [hg_tn]; simp [hg, tr_0], fun v hv => (vin_tn.mp hv).elim (fun q => q.elim) (fun q => q.elim (fun q => q.elim) (fun q => q.elim)), by show (1 : Int) ≤ _; omega⟩, rfl, rfl⟩
  · exact ⟨tn 2 tr_0 tr_0 tr_0, ⟨wt_2, by rw [hg_tn]; simp [hg, tr_0], fun v hv => (vin_tn.mp hv).elim (fun q => q.elim) (fun q => q.elim (fun q => q.elim) (fun q => q.elim)), by show (1 : Int) ≤ _; omega⟩, rfl, rfl⟩
  · exact ⟨.var 2, ⟨trivial, Nat.zero_le _, fun v hv => by cases hv; decide, by show (1 : Int) ≤ _; omega⟩, rfl, rfl⟩
  · exact ⟨.var 0, ⟨trivial, Nat.zero_le _, fun v hv => by cases hv; decide, by show (1 : Int) ≤ _; omega⟩, rfl, rfl⟩
  · exact ⟨.var 1, ⟨trivial, Nat.zero_le _, fun v hv => by cases hv; decide, by show (1 : Int) ≤ _; omega⟩, rfl, rfl⟩
theorem vin_00 {v : Nat} : ¬ vin v tr_0 := fun h => h
theorem TL_5 {m : Nat} {a b : tr} (ha : TL m a) (hb : TL m b) : TL (m + 1) (tn 5 a b tr_0) := by
  refine ⟨wt_5.mpr ⟨ha.1, hb.1⟩, by rw [hg_tn]; have := ha.2.1; have := hb.2.1; omega, fun v hv => ?_, by rw [pz_tn5]; have := ha.2.2.2; have := hb.2.2.2; simp only [lvB]; omega⟩
  rcases vin_tn.mp hv with q | q | q
  · exact ha.2.2.1 v q
  · exact hb.2.2.1 v q
  · exact (vin_00 q).elim
theorem TL_6 {m : Nat} {a b : tr} (ha : TL m a) (hb : TL m b) : TL (m + 1) (tn 6 a b tr_0) := by
  refine ⟨wt_6.mpr ⟨ha.1, hb.1⟩, by rw [hg_tn]; have := ha.2.1; have := hb.2.1; omega, fun v hv => ?_, by rw [pz_tn6]; have := ha.2.2.2; have := hb.2.2.2; simp only [lvB]; omega⟩
  rcases vin_tn.mp hv with q | q | q
  · exact ha.2.2.1 v q
  · exact hb.2.2.1 v q
  · exact (vin_00 q).elim
theorem TL_9 {m : Nat} {a : tr} (ha : TL m a) : TL (m + 1) (tn 9 a tr_0 tr_0) := by
  refine ⟨wt_9.mpr ha.1, by rw [hg_tn]; have := ha.2.1; simp [hg, tr_0]; omega, fun v hv => ?_, by rw [pz_tn9]; have := ha.2.2.2; simp only [lvB]; omega⟩
  rcases vin_tn.mp hv with q | q | q
  · exact ha.2.2.1 v q
  · exact (vin_00 q).elim
  · exact (vin_00 q).elim
section LW
variable {X : mi_X} {d N : Nat} {xs : Nat → Int32} {h : mi_H} {a b n : Nat} {g gb : Nat → Int} {p q : Nat}
/-- what the law's type leaves -/
def TYQ (h : mi_H) (a b : Nat) (g : Nat → Int) (p q m : Nat) (h' : mi_H) : Prop := ∃ (e : tr) (g' gb' : Nat → Int), TL m e ∧ LA h' a 40 g' ∧ LA h' b 1 gb' ∧ g' 0 = (p : Int) + pz e ∧ gb' 0 = (q : Int) + pz e ∧ (∀ j, 0 < j → j < p + 1 → g' j = g j) ∧ RX g' (p + 1) (kds e) ∧ LF h h' [a, b]
theorem type_head {m : Nat} {Q : mi_Z → Prop} (hN : N ≤ 2147483647) (hm : m ≤ 3) (A : LA h a 40 g) (B : LA h b 1 gb) (ne : a ≠ b) (g0 : g 0 = (p : Int)) (hp : p + 1 < 40) (q0 : gb 0 = (q : Int)) (hq : q < 100)
    (kk : ∀ h' (k y_ : Int), 0 ≤ k → (k < 5 ∨ (m ≠ 0 ∧ k < 8)) → LA h' a 40 (va_up (va_up g (0 : Int).toNat ((p : Int) + 1)) ((p : Int) + 1 : Int).toNat k) → LA h' b 1 (va_up gb (0 : Int).toNat ((q : Int) + 1)) → LF h h' [a, b] → mi_wp (some (N, xs)) (d + 1) mi_M177 59 [(5, .int (Int32.ofInt k)), (4, .int (Int32.ofInt y_)), (0, .ref a), (1, .retAddr 3), (2, .ref b), (3, .int (Int32.ofInt (3 - (m : Int))))] [] h' 0 0 Q) : mi_wp (some (N, xs)) (d + 1) mi_M177 0 [(0, .ref a), (1, .retAddr 3), (2, .ref b), (3, .int (Int32.ofInt (3 - (m : Int))))] [] h 0 0 Q := by
  have fr := LF_rf h [a, b]
  refine mi_wp_p (pc' := 1) (st' := [.retAddr 3]) rfl rfl rfl ?_
  refine mi_wp_p (pc' := 2) (st' := [.ref b, .retAddr 3]) rfl rfl rfl ?_
  refine mi_wp_p (pc' := 3) (st' := [.int (Int32.ofInt 0), .ref b, .retAddr 3]) rfl rfl rfl ?_
  refine ls_ald (x := (q : Int)) B rfl rfl (by decide) (by omega) (by omega) q0 ?_
  refine ls_ci rfl rfl rfl rfl rfl rfl (mi_cal_s2 (np := 2) (args := [.retAddr 3, .int (Int32.ofInt (q : Int))]) (rest := []) rfl rfl rfl (Or.inl rfl) rfl (Nat.le_of_ble_eq_true rfl) rfl rfl (Nat.le_of_ble_eq_true rfl)) (Nat.le_of_ble_eq_true rfl) (lw_cell hN (by omega) (by omega)) ?_
  intro x_ hh_ c_ s_ hc hs P
  obtain rfl : c_ = 0 := by omega
  obtain rfl : s_ = 0 := by omega
  subst P
  refine mi_wp_p (pc' := 8) (st' := [.ref b, .int (Int32.ofInt x_)]) rfl rfl rfl ?_
  refine mi_wp_p (pc' := 9) (st' := [.int (Int32.ofInt 0), .ref b, .int (Int32.ofInt x_)]) rfl rfl rfl ?_
  refine ls_ald (x := (q : Int)) B rfl rfl (by decide) (by omega) (by omega) q0 ?_
  refine mi_wp_p (pc' := 11) (st' := [.int (Int32.ofInt 5), .int (Int32.ofInt (q : Int)), .int (Int32.ofInt x_)]) rfl rfl rfl ?_
  refine ls_rem (by omega) (by omega) rfl rfl ?_
  refine ls_any (pc' := 13) rfl rfl rfl ?_
  intro y_ e_
  refine mi_wp_p (pc' := 15) (l' := [(4, .int (Int32.ofInt y_)), (0, .ref a), (1, .retAddr 3), (2, .ref b), (3, .int (Int32.ofInt (3 - (m : Int))))]) (st' := []) rfl rfl rfl ?_
  refine mi_wp_p (pc' := 16) (st' := [.ref b]) rfl rfl rfl ?_
  refine mi_wp_p (pc' := 17) (st' := [.int (Int32.ofInt 0), .ref b]) rfl rfl rfl ?_
  refine mi_wp_p (pc' := 18) (st' := [.int (Int32.ofInt 0), .ref b, .int (Int32.ofInt 0), .ref b]) rfl rfl rfl ?_
  refine ls_ald (x := (q : Int)) B rfl rfl (by decide) (by omega) (by omega) q0 ?_
  refine mi_wp_p (pc' := 20) (st' := [.int (Int32.ofInt 1), .int (Int32.ofInt (q : Int)), .int (Int32.ofInt 0), .ref b]) rfl rfl rfl ?_
  refine mi_s_add rfl rfl ?_
  refine ls_ast B rfl rfl (by decide) (by omega) (by omega) ?_
  intro h1_ B f
  replace A := LA_F1 A f (by omega)
  replace fr := LF_tr1 fr f (Or.inl (by simp))
  refine mi_wp_p (pc' := 23) (st' := [.int (Int32.ofInt (3 - (m : Int)))]) rfl rfl rfl ?_
  refine mi_wp_p (pc' := 24) (st' := [.int (Int32.ofInt 2), .int (Int32.ofInt (3 - (m : Int)))]) rfl rfl rfl ?_
  refine mi_s_if2 (t := 36) rfl rfl rfl (by unfold mi_R; omega) (by unfold mi_R; omega) ?_ ?_
  · intro (c2 : (3 - (m : Int)) ≤ 2)
    refine mi_wp_p (pc' := 38) (st' := [.int (Int32.ofInt y_)]) rfl rfl rfl ?_
    refine mi_s_k (pc' := 40) (e := 8) rfl rfl rfl (by decide +kernel) ?_
    refine ls_ci rfl rfl rfl rfl rfl rfl (mi_cal_s2 (np := 2) (args := [.int (Int32.ofInt y_), .int (Int32.ofInt 8)]) (rest := []) rfl rfl rfl (Or.inl rfl) rfl (Nat.le_of_ble_eq_true rfl) rfl rfl (Nat.le_of_ble_eq_true rfl)) (Nat.le_of_ble_eq_true rfl) (lw_below (by omega)) ?_
    intro k hh_ c_ s_ hc hs P
    obtain rfl : c_ = 0 := by omega
    obtain rfl : s_ = 0 := by omega
    obtain ⟨⟨k0, k1⟩, P⟩ := P
    subst P
    refine mi_wp_p (pc' := 45) (l' := [(5, .int (Int32.ofInt k)), (4, .int (Int32.ofInt y_)), (0, .ref a), (1, .retAddr 3), (2, .ref b), (3, .int (Int32.ofInt (3 - (m : Int))))]) (st' := []) rfl rfl rfl ?_
    refine mi_wp_p (pc' := 46) (st' := [.ref a]) rfl rfl rfl ?_
    refine mi_wp_p (pc' := 47) (st' := [.int (Int32.ofInt 0), .ref a]) rfl rfl rfl ?_
    refine mi_wp_p (pc' := 48) (st' := [.int (Int32.ofInt 0), .ref a, .int (Int32.ofInt 0), .ref a]) rfl rfl rfl ?_
    refine ls_ald (x := (p : Int)) A rfl rfl (by decide) (by omega) (by omega) g0 ?_
    refine mi_wp_p (pc' := 50) (st' := [.int (Int32.ofInt 1), .int (Int32.ofInt (p : Int)), .int (Int32.ofInt 0), .ref a]) rfl rfl rfl ?_
    refine mi_s_add rfl rfl ?_
    refine ls_ast A rfl rfl (by decide) (by omega) (by omega) ?_
    intro h3_ A f
    replace B := LA_F1 B f (by omega)
    replace fr := LF_tr1 fr f (Or.inl (by simp))
    refine mi_wp_p (pc' := 53) (st' := [.ref a]) rfl rfl rfl ?_
    refine mi_wp_p (pc' := 54) (st' := [.ref a, .ref a]) rfl rfl rfl ?_
    refine mi_wp_p (pc' := 55) (st' := [.int (Int32.ofInt 0), .ref a, .ref a]) rfl rfl rfl ?_
    refine ls_ald (x := ((p : Int) + 1)) A rfl rfl (by decide) (by omega) (by omega) (va_up_self _ _ _) ?_
    refine mi_wp_p (pc' := 58) (st' := [.int (Int32.ofInt k), .int (Int32.ofInt ((p : Int) + 1)), .ref a]) rfl rfl rfl ?_
    refine ls_ast A rfl rfl (by decide) (by omega) (by omega) ?_
    intro h4_ A f
    replace B := LA_F1 B f (by omega)
    replace fr := LF_tr1 fr f (Or.inl (by simp))
    exact kk _ k y_ k0 (by omega) A B fr
  · intro (c2 : ¬ ((3 - (m : Int)) ≤ 2))
    refine mi_wp_p (pc' := 29) (st' := [.int (Int32.ofInt y_)]) rfl rfl rfl ?_
    refine mi_wp_p (pc' := 30) (st' := [.int (Int32.ofInt 5), .int (Int32.ofInt y_)]) rfl rfl rfl ?_
    refine ls_ci rfl rfl rfl rfl rfl rfl (mi_cal_s2 (np := 2) (args := [.int (Int32.ofInt y_), .int (Int32.ofInt 5)]) (rest := []) rfl rfl rfl (Or.inl rfl) rfl (Nat.le_of_ble_eq_true rfl) rfl rfl (Nat.le_of_ble_eq_true rfl)) (Nat.le_of_ble_eq_true rfl) (lw_below (by omega)) ?_
    intro k hh_ c_ s_ hc hs P
    obtain rfl : c_ = 0 := by omega
    obtain rfl : s_ = 0 := by omega
    obtain ⟨⟨k0, k1⟩, P⟩ := P
    subst P
    refine mi_wp_p (pc' := 43) rfl rfl rfl ?_
    refine mi_wp_p (pc' := 45) (l' := [(5, .int (Int32.ofInt k)), (4, .int (Int32.ofInt y_)), (0, .ref a), (1, .retAddr 3), (2, .ref b), (3, .int (Int32.ofInt (3 - (m : Int))))]) (st' := []) rfl rfl rfl ?_
    refine mi_wp_p (pc' := 46) (st' := [.ref a]) rfl rfl rfl ?_
    refine mi_wp_p (pc' := 47) (st' := [.int (Int32.ofInt 0), .ref a]) rfl rfl rfl ?_
    refine mi_wp_p (pc' := 48) (st' := [.int (Int32.ofInt 0), .ref a, .int (Int32.ofInt 0), .ref a]) rfl rfl rfl ?_
    refine ls_ald (x := (p : Int)) A rfl rfl (by decide) (by omega) (by omega) g0 ?_
    refine mi_wp_p (pc' := 50) (st' := [.int (Int32.ofInt 1), .int (Int32.ofInt (p : Int)), .int (Int32.ofInt 0), .ref a]) rfl rfl rfl ?_
    refine mi_s_add rfl rfl ?_
    refine ls_ast A rfl rfl (by decide) (by omega) (by omega) ?_
    intro h5_ A f
    replace B := LA_F1 B f (by omega)
    replace fr := LF_tr1 fr f (Or.inl (by simp))
    refine mi_wp_p (pc' := 53) (st' := [.ref a]) rfl rfl rfl ?_
    refine mi_wp_p (pc' := 54) (st' := [.ref a, .ref a]) rfl rfl rfl ?_
    refine mi_wp_p (pc' := 55) (st' := [.int (Int32.ofInt 0), .ref a, .ref a]) rfl rfl rfl ?_
    refine ls_ald (x := ((p : Int) + 1)) A rfl rfl (by decide) (by omega) (by omega) (va_up_self _ _ _) ?_
    refine mi_wp_p (pc' := 58) (st' := [.int (Int32.ofInt k), .int (Int32.ofInt ((p : Int) + 1)), .ref a]) rfl rfl rfl ?_
    refine ls_ast A rfl rfl (by decide) (by omega) (by omega) ?_
    intro h6_ A f
    replace B := LA_F1 B f (by omega)
    replace fr := LF_tr1 fr f (Or.inl (by simp))
    exact kk _ k y_ k0 (by omega) A B fr
theorem type_leaf {m : Nat} {k y_ : Int} {P : mi_H → Prop} (k0 : 0 ≤ k) (k5 : k < 5) (hP : P h) : mi_wp (some (N, xs)) (d + 1) mi_M177 59 [(5, .int (Int32.ofInt k)), (4, .int (Int32.ofInt y_)), (0, .ref a), (1, .retAddr 3), (2, .ref b), (3, .int (Int32.ofInt (3 - (m : Int))))] [] h 0 0 (fun z => ∃ v h' c' s', z = (.inl v, h', c', s') ∧ c' ≤ 0 ∧ s' ≤ 0 ∧ v = none ∧ P h') := by
  refine mi_wp_p (pc' := 61) (st' := [.int (Int32.ofInt k)]) rfl rfl rfl ?_
  refine mi_wp_p (pc' := 62) (st' := [.int (Int32.ofInt 4), .int (Int32.ofInt k)]) rfl rfl rfl ?_
  refine mi_s_if2 (t := 74) rfl rfl rfl (by unfold mi_R; omega) (by unfold mi_R; omega) (fun _ => ?_) (fun hc_ => absurd (show k ≤ 4 by omega) hc_)
  refine mi_wp_p (pc' := 76) (st' := [.int (Int32.ofInt k)]) rfl rfl rfl ?_
  refine mi_wp_p (pc' := 77) (st' := [.int (Int32.ofInt 5), .int (Int32.ofInt k)]) rfl rfl rfl ?_
  refine mi_s_if2 (t := 87) rfl rfl rfl (by unfold mi_R; omega) (by unfold mi_R; omega) (fun hc_ => absurd (show k = 5 from hc_) (by omega)) (fun _ => ?_)
  refine mi_wp_p (pc' := 82) (st' := [.int (Int32.ofInt k)]) rfl rfl rfl ?_
  refine mi_s_k (pc' := 84) (e := 6) rfl rfl rfl (by decide +kernel) ?_
  refine mi_s_if2 (t := 96) rfl rfl rfl (by unfold mi_R; omega) (by unfold mi_R; omega) (fun _ => ?_) (fun hc_ => absurd (show k ≠ 6 by omega) hc_)
  exact ls_rv rfl rfl rfl rfl (Nat.le_refl _) (Nat.le_refl _) hP
theorem type_7 {m : Nat} {y_ : Int} {P P1 : mi_H → Prop} (H1 : LCv (some (N, xs)) d mi_M177 [(0, .ref a), (1, .retAddr 3), (2, .ref b), (3, .int (Int32.ofInt (3 - (m : Int) + 1)))] h 0 0 P1) (kk : ∀ h2, P1 h2 → P h2) : mi_wp (some (N, xs)) (d + 1) mi_M177 59 [(5, .int (Int32.ofInt 7)), (4, .int (Int32.ofInt y_)), (0, .ref a), (1, .retAddr 3), (2, .ref b), (3, .int (Int32.ofInt (3 - (m : Int))))] [] h 0 0 (fun z => ∃ v h' c' s', z = (.inl v, h', c', s') ∧ c' ≤ 0 ∧ s' ≤ 0 ∧ v = none ∧ P h') := by
  refine mi_wp_p (pc' := 61) (st' := [.int (Int32.ofInt 7)]) rfl rfl rfl ?_
  refine mi_wp_p (pc' := 62) (st' := [.int (Int32.ofInt 4), .int (Int32.ofInt 7)]) rfl rfl rfl ?_
  refine mi_s_if2 (t := 74) rfl rfl rfl (by unfold mi_R; omega) (by unfold mi_R; omega) (fun hc_ => absurd (show (7 : Int) ≤ 4 from hc_) (by omega)) (fun _ => ?_)
  refine mi_wp_p (pc' := 66) (st' := [.ref a]) rfl rfl rfl ?_
  refine mi_wp_p (pc' := 67) (st' := [.retAddr 3, .ref a]) rfl rfl rfl ?_
  refine mi_wp_p (pc' := 68) (st' := [.ref b, .retAddr 3, .ref a]) rfl rfl rfl ?_
  refine mi_wp_p (pc' := 69) (st' := [.int (Int32.ofInt (3 - (m : Int))), .ref b, .retAddr 3, .ref a]) rfl rfl rfl ?_
  refine mi_wp_p (pc' := 70) (st' := [.int (Int32.ofInt 1), .int (Int32.ofInt (3 - (m : Int))), .ref b, .retAddr 3, .ref a]) rfl rfl rfl ?_
  refine mi_s_add rfl rfl ?_
  refine ls_cv rfl rfl rfl rfl rfl rfl (mi_cal_s2 (np := 4) (args := [.ref a, .retAddr 3, .ref b, .int (Int32.ofInt ((3 - (m : Int)) + 1))]) (rest := []) rfl rfl rfl (Or.inl rfl) rfl (Nat.le_of_ble_eq_true rfl) rfl rfl (Nat.le_of_ble_eq_true rfl)) (Nat.le_of_ble_eq_true rfl) H1 ?_
  intro hh_ c_ s_ hc hs P1
  obtain rfl : c_ = 0 := by omega
  obtain rfl : s_ = 0 := by omega
  refine mi_wp_p (pc' := 76) (st' := [.int (Int32.ofInt 7)]) rfl rfl rfl ?_
  refine mi_wp_p (pc' := 77) (st' := [.int (Int32.ofInt 5), .int (Int32.ofInt 7)]) rfl rfl rfl ?_
  refine mi_s_if2 (t := 87) rfl rfl rfl (by unfold mi_R; omega) (by unfold mi_R; omega) (fun hc_ => absurd (show (7 : Int) = 5 from hc_) (by omega)) (fun _ => ?_)
  refine mi_wp_p (pc' := 82) (st' := [.int (Int32.ofInt 7)]) rfl rfl rfl ?_
  refine mi_s_k (pc' := 84) (e := 6) rfl rfl rfl (by decide +kernel) ?_
  refine mi_s_if2 (t := 96) rfl rfl rfl (by unfold mi_R; omega) (by unfold mi_R; omega) (fun _ => ?_) (fun hc_ => absurd (show (7 : Int) ≠ 6 by omega) hc_)
  exact ls_rv rfl rfl rfl rfl (Nat.le_refl _) (Nat.le_refl _) (kk _ P1)
theorem type_5 {m : Nat} {y_ : Int} {P P1 P2 : mi_H → Prop} (H1 : LCv (some (N, xs)) d mi_M177 [(0, .ref a), (1, .retAddr 3), (2, .ref b), (3, .int (Int32.ofInt (3 - (m : Int) + 1)))] h 0 0 P1) (H2 : ∀ h1, P1 h1 → LCv (some (N, xs)) d mi_M177 [(0, .ref a), (1, .retAddr 3), (2, .ref b), (3, .int (Int32.ofInt (3 - (m : Int) + 1)))] h1 0 0 P2) (kk : ∀ h2, P2 h2 → P h2) : mi_wp (some (N, xs)) (d + 1) mi_M177 59 [(5, .int (Int32.ofInt 5)), (4, .int (Int32.ofInt y_)), (0, .ref a), (1, .retAddr 3), (2, .ref b), (3, .int (Int32.ofInt (3 - (m : Int))))] [] h 0 0 (fun z => ∃ v h' c' s', z = (.inl v, h', c', s') ∧ c' ≤ 0 ∧ s' ≤ 0 ∧ v = none ∧ P h') := by
  refine mi_wp_p (pc' := 61) (st' := [.int (Int32.ofInt 5)]) rfl rfl rfl ?_
  refine mi_wp_p (pc' := 62) (st' := [.int (Int32.ofInt 4), .int (Int32.ofInt 5)]) rfl rfl rfl ?_
  refine mi_s_if2 (t := 74) rfl rfl rfl (by unfold mi_R; omega) (by unfold mi_R; omega) (fun hc_ => absurd (show (5 : Int) ≤ 4 from hc_) (by omega)) (fun _ => ?_)
  refine mi_wp_p (pc' := 66) (st' := [.ref a]) rfl rfl rfl ?_
  refine mi_wp_p (pc' := 67) (st' := [.retAddr 3, .ref a]) rfl rfl rfl ?_
  refine mi_wp_p (pc' := 68) (st' := [.ref b, .retAddr 3, .ref a]) rfl rfl rfl ?_
  refine mi_wp_p (pc' := 69) (st' := [.int (Int32.ofInt (3 - (m : Int))), .ref b, .retAddr 3, .ref a]) rfl rfl rfl ?_
  refine mi_wp_p (pc' := 70) (st' := [.int (Int32.ofInt 1), .int (Int32.ofInt (3 - (m : Int))), .ref b, .retAddr 3, .ref a]) rfl rfl rfl ?_
  refine mi_s_add rfl rfl ?_
  refine ls_cv rfl rfl rfl rfl rfl rfl (mi_cal_s2 (np := 4) (args := [.ref a, .retAddr 3, .ref b, .int (Int32.ofInt ((3 - (m : Int)) + 1))]) (rest := []) rfl rfl rfl (Or.inl rfl) rfl (Nat.le_of_ble_eq_true rfl) rfl rfl (Nat.le_of_ble_eq_true rfl)) (Nat.le_of_ble_eq_true rfl) H1 ?_
  intro hh_ c_ s_ hc hs P1
  obtain rfl : c_ = 0 := by omega
  obtain rfl : s_ = 0 := by omega
  refine mi_wp_p (pc' := 76) (st' := [.int (Int32.ofInt 5)]) rfl rfl rfl ?_
  refine mi_wp_p (pc' := 77) (st' := [.int (Int32.ofInt 5), .int (Int32.ofInt 5)]) rfl rfl rfl ?_
  refine mi_s_if2 (t := 87) rfl rfl rfl (by unfold mi_R; omega) (by unfold mi_R; omega) (fun _ => ?_) (fun hc_ => absurd (show (5 : Int) = 5 by omega) hc_)
  refine mi_wp_p (pc' := 88) (st' := [.ref a]) rfl rfl rfl ?_
  refine mi_wp_p (pc' := 89) (st' := [.retAddr 3, .ref a]) rfl rfl rfl ?_
  refine mi_wp_p (pc' := 90) (st' := [.ref b, .retAddr 3, .ref a]) rfl rfl rfl ?_
  refine mi_wp_p (pc' := 91) (st' := [.int (Int32.ofInt (3 - (m : Int))), .ref b, .retAddr 3, .ref a]) rfl rfl rfl ?_
  refine mi_wp_p (pc' := 92) (st' := [.int (Int32.ofInt 1), .int (Int32.ofInt (3 - (m : Int))), .ref b, .retAddr 3, .ref a]) rfl rfl rfl ?_
  refine mi_s_add rfl rfl ?_
  refine ls_cv rfl rfl rfl rfl rfl rfl (mi_cal_s2 (np := 4) (args := [.ref a, .retAddr 3, .ref b, .int (Int32.ofInt ((3 - (m : Int)) + 1))]) (rest := []) rfl rfl rfl (Or.inl rfl) rfl (Nat.le_of_ble_eq_true rfl) rfl rfl (Nat.le_of_ble_eq_true rfl)) (Nat.le_of_ble_eq_true rfl) (H2 _ P1) ?_
  intro hh_ c_ s_ hc hs P2
  obtain rfl : c_ = 0 := by omega
  obtain rfl : s_ = 0 := by omega
  exact ls_rv rfl rfl rfl rfl (Nat.le_refl _) (Nat.le_refl _) (kk _ P2)
theorem type_6 {m : Nat} {y_ : Int} {P P1 P2 : mi_H → Prop} (H1 : LCv (some (N, xs)) d mi_M177 [(0, .ref a), (1, .retAddr 3), (2, .ref b), (3, .int (Int32.ofInt (3 - (m : Int) + 1)))] h 0 0 P1) (H2 : ∀ h1, P1 h1 → LCv (some (N, xs)) d mi_M177 [(0, .ref a), (1, .retAddr 3), (2, .ref b), (3, .int (Int32.ofInt (3 - (m : Int) + 1)))] h1 0 0 P2) (kk : ∀ h2, P2 h2 → P h2) : mi_wp (some (N, xs)) (d + 1) mi_M177 59 [(5, .int (Int32.ofInt 6)), (4, .int (Int32.ofInt y_)), (0, .ref a), (1, .retAddr 3), (2, .ref b), (3, .int (Int32.ofInt (3 - (m : Int))))] [] h 0 0 (fun z => ∃ v h' c' s', z = (.inl v, h', c', s') ∧ c' ≤ 0 ∧ s' ≤ 0 ∧ v = none ∧ P h') := by
  refine mi_wp_p (pc' := 61) (st' := [.int (Int32.ofInt 6)]) rfl rfl rfl ?_
  refine mi_wp_p (pc' := 62) (st' := [.int (Int32.ofInt 4), .int (Int32.ofInt 6)]) rfl rfl rfl ?_
  refine mi_s_if2 (t := 74) rfl rfl rfl (by unfold mi_R; omega) (by unfold mi_R; omega) (fun hc_ => absurd (show (6 : Int) ≤ 4 from hc_) (by omega)) (fun _ => ?_)
  refine mi_wp_p (pc' := 66) (st' := [.ref a]) rfl rfl rfl ?_
  refine mi_wp_p (pc' := 67) (st' := [.retAddr 3, .ref a]) rfl rfl rfl ?_
  refine mi_wp_p (pc' := 68) (st' := [.ref b, .retAddr 3, .ref a]) rfl rfl rfl ?_
  refine mi_wp_p (pc' := 69) (st' := [.int (Int32.ofInt (3 - (m : Int))), .ref b, .retAddr 3, .ref a]) rfl rfl rfl ?_
  refine mi_wp_p (pc' := 70) (st' := [.int (Int32.ofInt 1), .int (Int32.ofInt (3 - (m : Int))), .ref b, .retAddr 3, .ref a]) rfl rfl rfl ?_
  refine mi_s_add rfl rfl ?_
  refine ls_cv rfl rfl rfl rfl rfl rfl (mi_cal_s2 (np := 4) (args := [.ref a, .retAddr 3, .ref b, .int (Int32.ofInt ((3 - (m : Int)) + 1))]) (rest := []) rfl rfl rfl (Or.inl rfl) rfl (Nat.le_of_ble_eq_true rfl) rfl rfl (Nat.le_of_ble_eq_true rfl)) (Nat.le_of_ble_eq_true rfl) H1 ?_
  intro hh_ c_ s_ hc hs P1
  obtain rfl : c_ = 0 := by omega
  obtain rfl : s_ = 0 := by omega
  refine mi_wp_p (pc' := 76) (st' := [.int (Int32.ofInt 6)]) rfl rfl rfl ?_
  refine mi_wp_p (pc' := 77) (st' := [.int (Int32.ofInt 5), .int (Int32.ofInt 6)]) rfl rfl rfl ?_
  refine mi_s_if2 (t := 87) rfl rfl rfl (by unfold mi_R; omega) (by unfold mi_R; omega) (fun hc_ => absurd (show (6 : Int) = 5 from hc_) (by omega)) (fun _ => ?_)
  refine mi_wp_p (pc' := 82) (st' := [.int (Int32.ofInt 6)]) rfl rfl rfl ?_
  refine mi_s_k (pc' := 84) (e := 6) rfl rfl rfl (by decide +kernel) ?_
  refine mi_s_if2 (t := 96) rfl rfl rfl (by unfold mi_R; omega) (by unfold mi_R; omega) (fun hc_ => absurd (show (6 : Int) ≠ 6 from hc_) (by omega)) (fun _ => ?_)
  refine mi_wp_p (pc' := 88) (st' := [.ref a]) rfl rfl rfl ?_
  refine mi_wp_p (pc' := 89) (st' := [.retAddr 3, .ref a]) rfl rfl rfl ?_
  refine mi_wp_p (pc' := 90) (st' := [.ref b, .retAddr 3, .ref a]) rfl rfl rfl ?_
  refine mi_wp_p (pc' := 91) (st' := [.int (Int32.ofInt (3 - (m : Int))), .ref b, .retAddr 3, .ref a]) rfl rfl rfl ?_
  refine mi_wp_p (pc' := 92) (st' := [.int (Int32.ofInt 1), .int (Int32.ofInt (3 - (m : Int))), .ref b, .retAddr 3, .ref a]) rfl rfl rfl ?_
  refine mi_s_add rfl rfl ?_
  refine ls_cv rfl rfl rfl rfl rfl rfl (mi_cal_s2 (np := 4) (args := [.ref a, .retAddr 3, .ref b, .int (Int32.ofInt ((3 - (m : Int)) + 1))]) (rest := []) rfl rfl rfl (Or.inl rfl) rfl (Nat.le_of_ble_eq_true rfl) rfl rfl (Nat.le_of_ble_eq_true rfl)) (Nat.le_of_ble_eq_true rfl) (H2 _ P1) ?_
  intro hh_ c_ s_ hc hs P2
  obtain rfl : c_ = 0 := by omega
  obtain rfl : s_ = 0 := by omega
  exact ls_rv rfl rfl rfl rfl (Nat.le_refl _) (Nat.le_refl _) (kk _ P2)
theorem type_g0 (g : Nat → Int) (p : Nat) (k : Int) : (va_up (va_up g (0 : Int).toNat ((p : Int) + 1)) ((p : Int) + 1).toNat k) 0 = ((p + 1 : Nat) : Int) := by
  rw [va_up_ne _ _ (by omega), show (0 : Nat) = (0 : Int).toNat from rfl, va_up_self]
  omega
theorem type_q0 (g : Nat → Int) (q : Nat) : (va_up g (0 : Int).toNat ((q : Int) + 1)) 0 = ((q + 1 : Nat) : Int) := by
  rw [show (0 : Nat) = (0 : Int).toNat from rfl, va_up_self]
  omega
theorem type_ne {j : Nat} {k : Int} (j0 : 0 < j) (j1 : j < p + 1) : (va_up (va_up g (0 : Int).toNat ((p : Int) + 1)) ((p : Int) + 1).toNat k) j = g j := by
  rw [va_up_ne _ _ (by omega), va_up_ne _ _ (by show j ≠ (0 : Int).toNat; simp; omega)]
theorem type_fin {m : Nat} {k : Int} {e : tr} {h' : mi_H} (T : TL m e) (pe : pz e = 1) (ke : kds e = [k]) (A' : LA h' a 40 (va_up (va_up g (0 : Int).toNat ((p : Int) + 1)) ((p : Int) + 1).toNat k)) (B' : LA h' b 1 (va_up gb (0 : Int).toNat ((q : Int) + 1))) (fr : LF h h' [a, b]) : TYQ h a b g p q m h' := by
  refine ⟨e, _, _, T, A', B', by rw [type_g0, pe]; omega, by rw [type_q0, pe]; omega, fun j j0 j1 => type_ne j0 j1, ?_, fr⟩
  rw [ke]
  exact RX_cons (by rw [show ((p : Int) + 1).toNat = p + 1 by omega, va_up_self]) (fun j y hy => by cases hy)
/-- behind two calls -/
def TYP2 (h : mi_H) (a b : Nat) (g : Nat → Int) (p q m : Nat) (h' : mi_H) : Prop := ∃ (e1 e2 : tr) (g' gb' : Nat → Int), TL m e1 ∧ TL m e2 ∧ LA h' a 40 g' ∧ LA h' b 1 gb' ∧ g' 0 = (p : Int) + 1 + pz e1 + pz e2 ∧ gb' 0 = (q : Int) + 1 + pz e1 + pz e2 ∧ (∀ j, 0 < j → j < p + 2 → g' j = g j) ∧ RX g' (p + 2) (kds e1 ++ kds e2) ∧ LF h h' [a, b]
theorem type_two {m : Nat} {h1 : mi_H} (ih : ∀ (d : Nat) (h : mi_H) (a b : Nat) (g gb : Nat → Int) (p q : Nat), LA h a 40 g → LA h b 1 gb → a ≠ b → g 0 = (p : Int) → p + lvB m < 40 → gb 0 = (q : Int) → q + lvB m ≤ 100 → LCv (some (N, xs)) (d + m + 1) mi_M177 [(0, .ref a), (1, .retAddr 3), (2, .ref b), (3, .int (Int32.ofInt (3 - (m : Int))))] h 0 0 (TYQ h a b g p q m)) (ne : a ≠ b) (hp : p + lvB (m + 1) < 40) (hq : q + lvB (m + 1) ≤ 100) (P1 : TYQ h a b g (p + 1) (q + 1) m h1) : LCv (some (N, xs)) (d + m + 1) mi_M177 [(0, .ref a), (1, .retAddr 3), (2, .ref b), (3, .int (Int32.ofInt (3 - (m : Int))))] h1 0 0 (TYP2 h a b g p q m) := by
  obtain ⟨e1, g1, gb1, T1, a1, a2, a3, a4, a5, a6, a7⟩ := P1
  have b2 : lvB (m + 1) = 1 + 2 * lvB m := rfl
  have z1 := pz_0 e1
  have z2 := T1.2.2.2
  have zl := kds_len _ e1 (Nat.le_refl _) T1.1
  have c2 := ih d h1 a b g1 gb1 (p + 1 + (pz e1).toNat) (q + 1 + (pz e1).toNat) a1 a2 ne (by rw [a3]; omega) (by omega) (by rw [a4]; omega) (by omega)
  refine mi_wp_q c2 (fun z ⟨v, h', c', s', e, hc, hs, hv, e2, g2, gb2, T2, k1, k2, k3, k4, k5, k6, k7⟩ => ⟨v, h', c', s', e, hc, hs, hv, e1, e2, g2, gb2, T1, T2, k1, k2, by omega, by omega, fun j j0 j1 => by rw [k5 j j0 (by omega), a5 j j0 (by omega)], ?_, LF_tr a7 k7 (fun k hk => Or.inl hk)⟩)
  refine RX_app (RX_keep a6 (fun j j0 j1 => k5 j j0 (by omega)) (by omega)) ?_
  have el : p + 2 + (kds e1).length = p + 1 + (pz e1).toNat + 1 := by omega
  rw [el]
  exact k6
theorem lw_type (hN : N ≤ 2147483647) : ∀ (m : Nat), m ≤ 3 → ∀ (d : Nat) (h : mi_H) (a b : Nat) (g gb : Nat → Int) (p q : Nat), LA h a 40 g → LA h b 1 gb → a ≠ b → g 0 = (p : Int) → p + lvB m < 40 → gb 0 = (q : Int) → q + lvB m ≤ 100 → LCv (some (N, xs)) (d + m + 1) mi_M177 [(0, .ref a), (1, .retAddr 3), (2, .ref b), (3, .int (Int32.ofInt (3 - (m : Int))))] h 0 0 (TYQ h a b g p q m) := by
  intro m
  induction m with
  | zero =>
    intro hm d h a b g gb p q A B ne g0 hp q0 hq
    have b1 : lvB 0 = 1 := rfl
    refine type_head hN hm A B ne g0 (by omega) q0 (by omega) (fun h' k y_ k0 k1 A' B' fr => ?_)
    obtain ⟨e, T, pe, ke⟩ := TL_leaf (m := 0) k0 (k1.elim id (fun z => (z.1 rfl).elim))
    exact type_leaf k0 (k1.elim id (fun z => (z.1 rfl).elim)) (type_fin T pe ke A' B' fr)
  | succ m ih =>
    intro hm d h a b g gb p q A B ne g0 hp q0 hq
    have b1 := lvB_1 m
    have b2 : lvB (m + 1) = 1 + 2 * lvB m := rfl
    refine type_head hN hm A B ne g0 (by omega) q0 (by omega) (fun h' k y_ k0 k1 A' B' fr => ?_)
    by_cases k5 : k < 5
    · obtain ⟨e, T, pe, ke⟩ := TL_leaf (m := m + 1) k0 k5
      exact type_leaf k0 k5 (type_fin T pe ke A' B' fr)
    · have hz : (3 - ((m + 1 : Nat) : Int) + 1) = 3 - (m : Int) := by omega
      have call1 := ih (by omega) d h' a b _ _ (p + 1) (q + 1) A' B' ne (type_g0 _ _ _) (by omega) (type_q0 _ _) (by omega)
      obtain rfl | rfl | rfl : k = 5 ∨ k = 6 ∨ k = 7 := by omega
      · refine type_5 (P1 := _) (P2 := TYP2 h' a b (va_up (va_up g (0 : Int).toNat ((p : Int) + 1)) ((p : Int) + 1).toNat 5) p q m) (by rw [hz]; exact call1) (fun h1 P1 => ?_) (fun h2 P2 => ?_)
        · rw [hz]
          exact type_two (ih (by omega)) ne hp hq P1
        · obtain ⟨e1, e2, g', gb', T1, T2, a1, a2, a3, a4, a5, a6, a7⟩ := P2
          refine ⟨tn 5 e1 e2 tr_0, g', gb', TL_5 T1 T2, a1, a2, by rw [pz_tn5]; omega, by rw [pz_tn5]; omega, fun j j0 j1 => by rw [a5 j j0 (by omega), type_ne j0 j1], ?_, LF_tr fr a7 (fun k hk => Or.inl hk)⟩
          rw [kds_5]
          exact RX_cons (by rw [a5 _ (by omega) (by omega), show ((p : Int) + 1).toNat = p + 1 by omega, va_up_self]) a6
      · refine type_6 (P1 := _) (P2 := TYP2 h' a b (va_up (va_up g (0 : Int).toNat ((p : Int) + 1)) ((p : Int) + 1).toNat 6) p q m) (by rw [hz]; exact call1) (fun h1 P1 => ?_) (fun h2 P2 => ?_)
        · rw [hz]
          exact type_two (ih (by omega)) ne hp hq P1
        · obtain ⟨e1, e2, g', gb', T1, T2, a1, a2, a3, a4, a5, a6, a7⟩ := P2
          refine ⟨tn 6 e1 e2 tr_0, g', gb', TL_6 T1 T2, a1, a2, by rw [pz_tn6]; omega, by rw [pz_tn6]; omega, fun j j0 j1 => by rw [a5 j j0 (by omega), type_ne j0 j1], ?_, LF_tr fr a7 (fun k hk => Or.inl hk)⟩
          rw [kds_6]
          exact RX_cons (by rw [a5 _ (by omega) (by omega), show ((p : Int) + 1).toNat = p + 1 by omega, va_up_self]) a6
      · refine type_7 (by rw [hz]; exact call1) (fun h2 P2 => ?_)
        obtain ⟨e1, g', gb', T1, a1, a2, a3, a4, a5, a6, a7⟩ := P2
        refine ⟨tn 9 e1 tr_0 tr_0, g', gb', TL_9 T1, a1, a2, by rw [pz_tn9]; omega, by rw [pz_tn9]; omega, fun j j0 j1 => by rw [a5 j j0 (by omega), type_ne j0 j1], ?_, LF_tr fr a7 (fun k hk => Or.inl hk)⟩
        rw [kds_9]
        exact RX_cons (by rw [a5 _ (by omega) (by omega), show ((p : Int) + 1).toNat = p + 1 by omega, va_up_self]) a6
theorem beh_leaf {i : Nat} {k z1 z2 r : Int} (A : LA h a 40 g) (gk : g ((i : Int)).toNat = k) (hi : i < 40) (hz : 0 ≤ z1 ∧ z1 < 100 ∧ 0 ≤ z2 ∧ z2 < 100) (hr : r = (i : Int) + 1) (k0 : k < 5) (kr : -1000 < k) : LCi X (d + 1) mi_M168 [(0, .ref a), (1, .int (Int32.ofInt (i : Int)))] h 0 0 (fun x h' => x = r ∧ h' = h) := by
  unfold LCi LC
  refine mi_wp_p (pc' := 1) (st' := [.ref a]) rfl rfl rfl ?_
  refine mi_wp_p (pc' := 2) (st' := [.int (Int32.ofInt (i : Int)), .ref a]) rfl rfl rfl ?_
  refine ls_ald (x := k) A rfl rfl (by decide) (by omega) (by omega) gk ?_
  refine mi_wp_p (pc' := 4) (st' := [.int (Int32.ofInt 5), .int (Int32.ofInt k)]) rfl rfl rfl ?_
  refine mi_s_if2 (t := 11) rfl rfl rfl (by unfold mi_R; omega) (by unfold mi_R; omega) (fun hc_ => absurd (show 5 ≤ k from hc_) (by omega)) (fun _ => ?_)
  refine mi_wp_p (pc' := 8) (st' := [.int (Int32.ofInt (i : Int))]) rfl rfl rfl ?_
  refine mi_wp_p (pc' := 9) (st' := [.int (Int32.ofInt 1), .int (Int32.ofInt (i : Int))]) rfl rfl rfl ?_
  refine mi_s_add rfl rfl ?_
  exact ls_ri rfl rfl rfl (mi_ret_i rfl) (Nat.le_refl _) (Nat.le_refl _) ⟨by omega, rfl⟩
theorem beh_7 {i : Nat} {z1 z2 r : Int} (A : LA h a 40 g) (gk : g ((i : Int)).toNat = 7) (hi : i < 40) (hz : 0 ≤ z1 ∧ z1 < 100 ∧ 0 ≤ z2 ∧ z2 < 100) (hr : r = (i : Int) + 1 + z1)  (H1 : LCi X d mi_M168 [(0, .ref a), (1, .int (Int32.ofInt ((i : Int) + 1)))] h 0 0 (fun x h' => x = (i : Int) + 1 + z1 ∧ h' = h)) : LCi X (d + 1) mi_M168 [(0, .ref a), (1, .int (Int32.ofInt (i : Int)))] h 0 0 (fun x h' => x = r ∧ h' = h) := by
  unfold LCi LC
  refine mi_wp_p (pc' := 1) (st' := [.ref a]) rfl rfl rfl ?_
  refine mi_wp_p (pc' := 2) (st' := [.int (Int32.ofInt (i : Int)), .ref a]) rfl rfl rfl ?_
  refine ls_ald (x := 7) A rfl rfl (by decide) (by omega) (by omega) gk ?_
  refine mi_wp_p (pc' := 4) (st' := [.int (Int32.ofInt 5), .int (Int32.ofInt 7)]) rfl rfl rfl ?_
  refine mi_s_if2 (t := 11) rfl rfl rfl (by unfold mi_R; omega) (by unfold mi_R; omega) (fun _ => ?_) (fun hc_ => absurd (show 5 ≤ (7 : Int) by omega) hc_)
  refine mi_wp_p (pc' := 12) (st' := [.ref a]) rfl rfl rfl ?_
  refine mi_wp_p (pc' := 13) (st' := [.int (Int32.ofInt (i : Int)), .ref a]) rfl rfl rfl ?_
  refine mi_wp_p (pc' := 14) (st' := [.int (Int32.ofInt 1), .int (Int32.ofInt (i : Int)), .ref a]) rfl rfl rfl ?_
  refine mi_s_add rfl rfl ?_
  refine ls_ci rfl rfl rfl rfl rfl rfl (mi_cal_s2 (np := 2) (args := [.ref a, .int (Int32.ofInt ((i : Int) + 1))]) (rest := []) rfl rfl rfl (Or.inl rfl) rfl (Nat.le_of_ble_eq_true rfl) rfl rfl (Nat.le_of_ble_eq_true rfl)) (Nat.le_of_ble_eq_true rfl) H1 ?_
  intro x_ hh_ c_ s_ hc hs P
  obtain rfl : c_ = 0 := by omega
  obtain rfl : s_ = 0 := by omega
  obtain ⟨P, P2⟩ := P
  subst P2
  subst P
  refine mi_wp_p (pc' := 19) (l' := [(2, .int (Int32.ofInt ((i : Int) + 1 + z1))), (0, .ref a), (1, .int (Int32.ofInt (i : Int)))]) (st' := []) rfl rfl rfl ?_
  refine mi_wp_p (pc' := 20) (st' := [.ref a]) rfl rfl rfl ?_
  refine mi_wp_p (pc' := 21) (st' := [.int (Int32.ofInt (i : Int)), .ref a]) rfl rfl rfl ?_
  refine ls_ald (x := 7) A rfl rfl (by decide) (by omega) (by omega) gk ?_
  refine mi_s_k (pc' := 24) (e := 7) rfl rfl rfl (by decide +kernel) ?_
  refine mi_s_if2 (t := 31) rfl rfl rfl (by unfold mi_R; omega) (by unfold mi_R; omega) (fun hc_ => absurd (show (7 : Int) ≠ 7 from hc_) (by omega)) (fun _ => ?_)
  refine mi_wp_p (pc' := 28) (st' := [.int (Int32.ofInt ((i : Int) + 1 + z1))]) rfl rfl rfl ?_
  refine mi_wp_p (pc' := 36) rfl rfl rfl ?_
  exact ls_ri rfl rfl rfl (mi_ret_i rfl) (Nat.le_refl _) (Nat.le_refl _) ⟨by omega, rfl⟩
theorem beh_5 {i : Nat} {k z1 z2 r : Int} (A : LA h a 40 g) (gk : g ((i : Int)).toNat = k) (hi : i < 40) (hz : 0 ≤ z1 ∧ z1 < 100 ∧ 0 ≤ z2 ∧ z2 < 100) (hr : r = (i : Int) + 1 + z1 + z2) (k5 : k = 5 ∨ k = 6) (H1 : LCi X d mi_M168 [(0, .ref a), (1, .int (Int32.ofInt ((i : Int) + 1)))] h 0 0 (fun x h' => x = (i : Int) + 1 + z1 ∧ h' = h)) (H2 : LCi X d mi_M168 [(0, .ref a), (1, .int (Int32.ofInt ((i : Int) + 1 + z1)))] h 0 0 (fun x h' => x = (i : Int) + 1 + z1 + z2 ∧ h' = h)) : LCi X (d + 1) mi_M168 [(0, .ref a), (1, .int (Int32.ofInt (i : Int)))] h 0 0 (fun x h' => x = r ∧ h' = h) := by
  unfold LCi LC
  refine mi_wp_p (pc' := 1) (st' := [.ref a]) rfl rfl rfl ?_
  refine mi_wp_p (pc' := 2) (st' := [.int (Int32.ofInt (i : Int)), .ref a]) rfl rfl rfl ?_
  refine ls_ald (x := k) A rfl rfl (by decide) (by omega) (by omega) gk ?_
  refine mi_wp_p (pc' := 4) (st' := [.int (Int32.ofInt 5), .int (Int32.ofInt k)]) rfl rfl rfl ?_
  refine mi_s_if2 (t := 11) rfl rfl rfl (by unfold mi_R; omega) (by unfold mi_R; omega) (fun _ => ?_) (fun hc_ => absurd (show 5 ≤ k by omega) hc_)
  refine mi_wp_p (pc' := 12) (st' := [.ref a]) rfl rfl rfl ?_
  refine mi_wp_p (pc' := 13) (st' := [.int (Int32.ofInt (i : Int)), .ref a]) rfl rfl rfl ?_
  refine mi_wp_p (pc' := 14) (st' := [.int (Int32.ofInt 1), .int (Int32.ofInt (i : Int)), .ref a]) rfl rfl rfl ?_
  refine mi_s_add rfl rfl ?_
  refine ls_ci rfl rfl rfl rfl rfl rfl (mi_cal_s2 (np := 2) (args := [.ref a, .int (Int32.ofInt ((i : Int) + 1))]) (rest := []) rfl rfl rfl (Or.inl rfl) rfl (Nat.le_of_ble_eq_true rfl) rfl rfl (Nat.le_of_ble_eq_true rfl)) (Nat.le_of_ble_eq_true rfl) H1 ?_
  intro x_ hh_ c_ s_ hc hs P
  obtain rfl : c_ = 0 := by omega
  obtain rfl : s_ = 0 := by omega
  obtain ⟨P, P2⟩ := P
  subst P2
  subst P
  refine mi_wp_p (pc' := 19) (l' := [(2, .int (Int32.ofInt ((i : Int) + 1 + z1))), (0, .ref a), (1, .int (Int32.ofInt (i : Int)))]) (st' := []) rfl rfl rfl ?_
  refine mi_wp_p (pc' := 20) (st' := [.ref a]) rfl rfl rfl ?_
  refine mi_wp_p (pc' := 21) (st' := [.int (Int32.ofInt (i : Int)), .ref a]) rfl rfl rfl ?_
  refine ls_ald (x := k) A rfl rfl (by decide) (by omega) (by omega) gk ?_
  refine mi_s_k (pc' := 24) (e := 7) rfl rfl rfl (by decide +kernel) ?_
  refine mi_s_if2 (t := 31) rfl rfl rfl (by unfold mi_R; omega) (by unfold mi_R; omega) (fun _ => ?_) (fun hc_ => absurd (show k ≠ 7 by omega) hc_)
  refine mi_wp_p (pc' := 32) (st' := [.ref a]) rfl rfl rfl ?_
  refine mi_wp_p (pc' := 33) (st' := [.int (Int32.ofInt ((i : Int) + 1 + z1)), .ref a]) rfl rfl rfl ?_
  refine ls_ci rfl rfl rfl rfl rfl rfl (mi_cal_s2 (np := 2) (args := [.ref a, .int (Int32.ofInt ((i : Int) + 1 + z1))]) (rest := []) rfl rfl rfl (Or.inl rfl) rfl (Nat.le_of_ble_eq_true rfl) rfl rfl (Nat.le_of_ble_eq_true rfl)) (Nat.le_of_ble_eq_true rfl) H2 ?_
  intro x_ hh_ c_ s_ hc hs P
  obtain rfl : c_ = 0 := by omega
  obtain rfl : s_ = 0 := by omega
  obtain ⟨P, P2⟩ := P
  subst P2
  subst P
  exact ls_ri rfl rfl rfl (mi_ret_i rfl) (Nat.le_refl _) (Nat.le_refl _) ⟨by omega, rfl⟩
theorem lw_behind : ∀ (m : Nat) (e : tr), hg e ≤ m → wt e → ∀ (d : Nat) (h : mi_H) (a : Nat) (g : Nat → Int) (i : Nat), LA h a 40 g → RX g i (kds e) → (i : Int) + pz e ≤ 40 → LCi X (d + m + 1) mi_M168 [(0, .ref a), (1, .int (Int32.ofInt (i : Int)))] h 0 0 (fun x h' => x = (i : Int) + pz e ∧ h' = h) := by
  intro m
  have leaf : ∀ (d : Nat) (e : tr) (k : Int) (h : mi_H) (a : Nat) (g : Nat → Int) (i : Nat), kds e = [k] → k < 5 → -1000 < k → pz e = 1 → LA h a 40 g → RX g i (kds e) → (i : Int) + pz e ≤ 40 → LCi X (d + 1) mi_M168 [(0, .ref a), (1, .int (Int32.ofInt (i : Int)))] h 0 0 (fun x h' => x = (i : Int) + pz e ∧ h' = h) := by
    intro d e k h a g i ek k5 kr pe A R hi
    rw [ek] at R
    exact beh_leaf (z1 := 0) (z2 := 0) A (by rw [Int.toNat_natCast]; exact (RX_c R).1) (by omega) (by omega) (by omega) k5 kr
  have leafv : ∀ (d : Nat) (v : Nat) (h : mi_H) (a : Nat) (g : Nat → Int) (i : Nat), LA h a 40 g → RX g i (kds (.var v)) → (i : Int) + pz (.var v) ≤ 40 → LCi X (d + 1) mi_M168 [(0, .ref a), (1, .int (Int32.ofInt (i : Int)))] h 0 0 (fun x h' => x = (i : Int) + pz (.var v) ∧ h' = h) := by
    intro d v h a g i A R hi
    refine leaf d (.var v) _ h a g i rfl ?_ ?_ rfl A R hi
    · split
      · omega
      · split <;> omega
    · split
      · omega
      · split <;> omega
  induction m with
  | zero =>
    intro e hm hw d h a g i A R hi
    rcases wt_c hw with ⟨v, rfl⟩ | (rfl | rfl) | ⟨a, b, wa, wb, rfl | rfl⟩ | ⟨a, wa, rfl⟩
    · exact leafv _ v h a g i A R hi
    · rw [hg_tn] at hm; omega
    · rw [hg_tn] at hm; omega
    · rw [hg_tn] at hm; omega
    · rw [hg_tn] at hm; omega
    · rw [hg_tn] at hm; omega
  | succ m ih =>
    intro e hm hw d h a g i A R hi
    have two : ∀ (e1 e2 : tr) (k : Int), k = 5 ∨ k = 6 → wt e1 → wt e2 → hg e1 ≤ m → hg e2 ≤ m → RX g i (k :: (kds e1 ++ kds e2)) → (i : Int) + (1 + pz e1 + pz e2) ≤ 40 → LCi X (d + (m + 1) + 1) mi_M168 [(0, .ref a), (1, .int (Int32.ofInt (i : Int)))] h 0 0 (fun x h' => x = (i : Int) + (1 + pz e1 + pz e2) ∧ h' = h) := by
      intro e1 e2 k hk w1 w2 q1 q2 R hi
      have z1 := pz_0 e1
      have z2 := pz_0 e2
      have l1 := kds_len _ e1 (Nat.le_refl _) w1
      obtain ⟨r1, r2⟩ := RX_c R
      obtain ⟨r3, r4⟩ := RX_a r2
      have c1 := ih e1 q1 w1 d h a g (i + 1) A r3 (by omega)
      have c2 := ih e2 q2 w2 d h a g (i + 1 + (kds e1).length) A r4 (by omega)
      have x1 : ((i + 1 : Nat) : Int) = (i : Int) + 1 := by omega
      have x2 : ((i + 1 + (kds e1).length : Nat) : Int) = (i : Int) + 1 + pz e1 := by omega
      rw [x1] at c1
      rw [x2] at c2
      exact beh_5 (z1 := pz e1) (z2 := pz e2) A (by rw [Int.toNat_natCast]; exact r1) (by omega) (by omega) (by omega) hk c1 c2
    rcases wt_c hw with ⟨v, rfl⟩ | (rfl | rfl) | ⟨e1, e2, w1, w2, rfl | rfl⟩ | ⟨e1, w1, rfl⟩
    · exact leafv _ v h a g i A R hi
    · exact leaf _ _ 0 h a g i kds_1 (by decide) (by decide) rfl A R hi
    · exact leaf _ _ 1 h a g i kds_2 (by decide) (by decide) rfl A R hi
    · rw [hg_tn] at hm
      rw [kds_5] at R
      rw [pz_tn5] at hi ⊢
      exact two e1 e2 5 (Or.inl rfl) w1 w2 (by omega) (by omega) R hi
    · rw [hg_tn] at hm
      rw [kds_6] at R
      rw [pz_tn6] at hi ⊢
      exact two e1 e2 6 (Or.inr rfl) w1 w2 (by omega) (by omega) R hi
    · rw [hg_tn] at hm
      rw [kds_9] at R
      rw [pz_tn9] at hi ⊢
      have z1 := pz_0 e1
      obtain ⟨r1, r2⟩ := RX_c R
      have c1 := ih e1 (by omega) w1 d h a g (i + 1) A r2 (by omega)
      have x1 : ((i + 1 : Nat) : Int) = (i : Int) + 1 := by omega
      rw [x1] at c1
      exact beh_7 (z1 := pz e1) (z2 := 0) A (by rw [Int.toNat_natCast]; exact r1) (by omega) (by omega) (by omega) c1
end LW
