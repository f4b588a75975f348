/-! ===== the law's show (printed by wip/gen/p_law4.py) ===== -/
/-- show writes e, which stands at place i of row a, behind what row t holds -/
def SHW (X : mi_X) (d t a b n : Nat) (g gl : Nat → Int) (i : Int) (w : Nat) (wi : Int) (e : tr) : Prop := ∀ (h : mi_H) (bs : List Int), LT h t n bs → LA h a 40 g → LA h b 6 gl → (bs.length : Int) + 9 * pz e + 1 < n → LCv X d mi_M176 [(0, .ref t), (1, .ref a), (2, .int (Int32.ofInt i)), (3, .int (Int32.ofInt wi)), (4, .ref b)] h (pz e).toNat (5 * (pz e).toNat) (fun h' => LT h' t n (bs ++ wrp (brk w e) (prt e)) ∧ LF h h' [t])
theorem wrp_9 {w : Nat} {e : tr} (hw : wt e) : ((wrp (brk w e) (prt e)).length : Int) ≤ 9 * pz e := by
  have h1 := prt_len _ e rfl hw
  have h2 := pz_wt hw
  have h3 : ((wrp (brk w e) (prt e)).length : Int) ≤ (prt e).length + 2 := by
    unfold wrp
    split
    · simp only [List.length_append, List.length_cons, List.length_nil]; omega
    · omega
  omega
theorem wrp_f (l : List Int) : wrp false l = l := rfl
theorem wrp_t (l : List Int) : wrp true l = 40 :: (l ++ [41]) := rfl
section LW
variable {X : mi_X} {d t a b n : Nat} {g gl : Nat → Int} {i : Int} {e e1 e2 : tr}
theorem show_int {w : Nat} {wi j : Int} (ne : t ≠ a ∧ t ≠ b ∧ a ≠ b) (hn : n ≤ 100000) (hi : 0 < i ∧ i < 40) (hw : wi = (w : Int) ∧ w < 4) (gk : g i.toNat = 0) : SHW X (d + 5) t a b n g gl i w wi (tn 1 tr_0 tr_0 tr_0) := by
  intro h bs A_t A_a A_b hl
  obtain ⟨ne1, ne2, ne3⟩ := ne
  obtain ⟨hw1, hw2⟩ := hw
  unfold LCv LC
  have fr := LF_rf h [t]
  replace hl : (bs.length : Int) + 9 * 1 + 1 < n := hl
  refine mi_wp_p (pc' := 1) (st' := [.ref a]) rfl rfl rfl ?_
  refine mi_wp_p (pc' := 2) (st' := [.int (Int32.ofInt i), .ref a]) rfl rfl rfl ?_
  refine ls_ald (x := 0) A_a rfl rfl (by decide) (by omega) (by omega) gk ?_
  refine mi_wp_p (pc' := 5) (l' := [(5, .int (Int32.ofInt 0)), (0, .ref t), (1, .ref a), (2, .int (Int32.ofInt i)), (3, .int (Int32.ofInt wi)), (4, .ref b)]) (st' := []) rfl rfl rfl ?_
  refine mi_wp_p (pc' := 7) (st' := [.int (Int32.ofInt 0)]) rfl rfl rfl ?_
  refine mi_wp_p (pc' := 8) (st' := [.int (Int32.ofInt 5), .int (Int32.ofInt 0)]) rfl rfl rfl ?_
  refine mi_s_if2 (t := 16) rfl rfl rfl (by unfold mi_R; omega) (by unfold mi_R; omega) (fun _ => ?_) (fun hc_ => absurd (show (0 : Int) ≠ 5 by omega) hc_)
  refine mi_wp_p (pc' := 18) (st' := [.int (Int32.ofInt 0)]) rfl rfl rfl ?_
  refine mi_s_k (pc' := 20) (e := 6) rfl rfl rfl (by decide +kernel) ?_
  refine mi_s_if2 (t := 27) rfl rfl rfl (by unfold mi_R; omega) (by unfold mi_R; omega) (fun _ => ?_) (fun hc_ => absurd (show (0 : Int) ≠ 6 by omega) hc_)
  refine mi_wp_p (pc' := 29) (st' := [.int (Int32.ofInt 0)]) rfl rfl rfl ?_
  refine mi_s_k (pc' := 31) (e := 7) rfl rfl rfl (by decide +kernel) ?_
  refine mi_s_if2 (t := 43) rfl rfl rfl (by unfold mi_R; omega) (by unfold mi_R; omega) (fun _ => ?_) (fun hc_ => absurd (show (0 : Int) ≠ 7 by omega) hc_)
  refine mi_wp_p (pc' := 44) (st' := [.int (Int32.ofInt 0)]) rfl rfl rfl ?_
  refine mi_wp_p (pc' := 46) (l' := [(6, .int (Int32.ofInt 0)), (5, .int (Int32.ofInt 0)), (0, .ref t), (1, .ref a), (2, .int (Int32.ofInt i)), (3, .int (Int32.ofInt wi)), (4, .ref b)]) (st' := []) rfl rfl rfl ?_
  refine mi_wp_p (pc' := 48) (st' := [.int (Int32.ofInt 0)]) rfl rfl rfl ?_
  refine mi_s_if1 (t := 57) rfl rfl rfl (by unfold mi_R; omega) (fun _ => ?_) (fun hc_ => absurd (show (0 : Int) = 0 by omega) hc_)
  refine mi_wp_p (pc' := 59) (st' := [.int (Int32.ofInt 0)]) rfl rfl rfl ?_
  refine mi_wp_p (pc' := 60) (st' := [.int (Int32.ofInt 2), .int (Int32.ofInt 0)]) rfl rfl rfl ?_
  refine mi_s_if2 (t := 82) rfl rfl rfl (by unfold mi_R; omega) (by unfold mi_R; omega) (fun hc_ => absurd (show 2 ≤ (0 : Int) from hc_) (by omega)) (fun _ => ?_)
  refine mi_wp_p (pc' := 64) (st' := [.ref t]) rfl rfl rfl ?_
  refine mi_wp_p (pc' := 66) (st' := [.int (Int32.ofInt 0), .ref t]) rfl rfl rfl ?_
  refine mi_s_if1 (t := 74) rfl rfl rfl (by unfold mi_R; omega) (fun hc_ => absurd (show (0 : Int) ≠ 0 from hc_) (by omega)) (fun _ => ?_)
  refine mi_s_lds (i := 20) rfl rfl rfl rfl rfl ?_
  refine mi_wp_p (pc' := 76) rfl rfl rfl ?_
  refine ls_cv rfl rfl rfl rfl rfl rfl (mi_cal_s2 (np := 2) (args := [.ref t, .retAddr 80]) (rest := []) rfl rfl rfl (Or.inl rfl) rfl (Nat.le_of_ble_eq_true rfl) rfl rfl (Nat.le_of_ble_eq_true rfl)) (Nat.le_of_ble_eq_true rfl) (lw_puts STR_20 A_t (by first | omega | (simp only [List.length_append, List.length_cons, List.length_nil]; omega)) hn) ?_
  intro hh1 c_ s_ hc hs P
  obtain rfl : c_ = 0 := by omega
  obtain rfl : s_ = 0 := by omega
  obtain ⟨A_t, f⟩ := P
  replace A_a := LA_F1 A_a f (by omega)
  replace A_b := LA_F1 A_b f (by omega)
  replace fr := LF_tr1 fr f (Or.inl (by simp))
  refine mi_wp_p (pc' := 249) rfl rfl rfl ?_
  refine mi_wp_p (pc' := 251) (st' := [.int (Int32.ofInt 0)]) rfl rfl rfl ?_
  refine mi_s_if1 (t := 260) rfl rfl rfl (by unfold mi_R; omega) (fun _ => ?_) (fun hc_ => absurd (show (0 : Int) = 0 by omega) hc_)
  exact ls_rv rfl rfl rfl rfl (by show _ ≤ (1 : Int).toNat; omega) (by show _ ≤ 5 * (1 : Int).toNat; omega) ⟨A_t, fr⟩
theorem show_bool {w : Nat} {wi j : Int} (ne : t ≠ a ∧ t ≠ b ∧ a ≠ b) (hn : n ≤ 100000) (hi : 0 < i ∧ i < 40) (hw : wi = (w : Int) ∧ w < 4) (gk : g i.toNat = 1) : SHW X (d + 5) t a b n g gl i w wi (tn 2 tr_0 tr_0 tr_0) := by
  intro h bs A_t A_a A_b hl
  obtain ⟨ne1, ne2, ne3⟩ := ne
  obtain ⟨hw1, hw2⟩ := hw
  unfold LCv LC
  have fr := LF_rf h [t]
  replace hl : (bs.length : Int) + 9 * 1 + 1 < n := hl
  refine mi_wp_p (pc' := 1) (st' := [.ref a]) rfl rfl rfl ?_
  refine mi_wp_p (pc' := 2) (st' := [.int (Int32.ofInt i), .ref a]) rfl rfl rfl ?_
  refine ls_ald (x := 1) A_a rfl rfl (by decide) (by omega) (by omega) gk ?_
  refine mi_wp_p (pc' := 5) (l' := [(5, .int (Int32.ofInt 1)), (0, .ref t), (1, .ref a), (2, .int (Int32.ofInt i)), (3, .int (Int32.ofInt wi)), (4, .ref b)]) (st' := []) rfl rfl rfl ?_
  refine mi_wp_p (pc' := 7) (st' := [.int (Int32.ofInt 1)]) rfl rfl rfl ?_
  refine mi_wp_p (pc' := 8) (st' := [.int (Int32.ofInt 5), .int (Int32.ofInt 1)]) rfl rfl rfl ?_
  refine mi_s_if2 (t := 16) rfl rfl rfl (by unfold mi_R; omega) (by unfold mi_R; omega) (fun _ => ?_) (fun hc_ => absurd (show (1 : Int) ≠ 5 by omega) hc_)
  refine mi_wp_p (pc' := 18) (st' := [.int (Int32.ofInt 1)]) rfl rfl rfl ?_
  refine mi_s_k (pc' := 20) (e := 6) rfl rfl rfl (by decide +kernel) ?_
  refine mi_s_if2 (t := 27) rfl rfl rfl (by unfold mi_R; omega) (by unfold mi_R; omega) (fun _ => ?_) (fun hc_ => absurd (show (1 : Int) ≠ 6 by omega) hc_)
  refine mi_wp_p (pc' := 29) (st' := [.int (Int32.ofInt 1)]) rfl rfl rfl ?_
  refine mi_s_k (pc' := 31) (e := 7) rfl rfl rfl (by decide +kernel) ?_
  refine mi_s_if2 (t := 43) rfl rfl rfl (by unfold mi_R; omega) (by unfold mi_R; omega) (fun _ => ?_) (fun hc_ => absurd (show (1 : Int) ≠ 7 by omega) hc_)
  refine mi_wp_p (pc' := 44) (st' := [.int (Int32.ofInt 0)]) rfl rfl rfl ?_
  refine mi_wp_p (pc' := 46) (l' := [(6, .int (Int32.ofInt 0)), (5, .int (Int32.ofInt 1)), (0, .ref t), (1, .ref a), (2, .int (Int32.ofInt i)), (3, .int (Int32.ofInt wi)), (4, .ref b)]) (st' := []) rfl rfl rfl ?_
  refine mi_wp_p (pc' := 48) (st' := [.int (Int32.ofInt 0)]) rfl rfl rfl ?_
  refine mi_s_if1 (t := 57) rfl rfl rfl (by unfold mi_R; omega) (fun _ => ?_) (fun hc_ => absurd (show (0 : Int) = 0 by omega) hc_)
  refine mi_wp_p (pc' := 59) (st' := [.int (Int32.ofInt 1)]) rfl rfl rfl ?_
  refine mi_wp_p (pc' := 60) (st' := [.int (Int32.ofInt 2), .int (Int32.ofInt 1)]) rfl rfl rfl ?_
  refine mi_s_if2 (t := 82) rfl rfl rfl (by unfold mi_R; omega) (by unfold mi_R; omega) (fun hc_ => absurd (show 2 ≤ (1 : Int) from hc_) (by omega)) (fun _ => ?_)
  refine mi_wp_p (pc' := 64) (st' := [.ref t]) rfl rfl rfl ?_
  refine mi_wp_p (pc' := 66) (st' := [.int (Int32.ofInt 1), .ref t]) rfl rfl rfl ?_
  refine mi_s_if1 (t := 74) rfl rfl rfl (by unfold mi_R; omega) (fun _ => ?_) (fun hc_ => absurd (show (1 : Int) ≠ 0 by omega) hc_)
  refine mi_s_lds (i := 21) rfl rfl rfl rfl rfl ?_
  refine ls_cv rfl rfl rfl rfl rfl rfl (mi_cal_s2 (np := 2) (args := [.ref t, .retAddr 84]) (rest := []) rfl rfl rfl (Or.inl rfl) rfl (Nat.le_of_ble_eq_true rfl) rfl rfl (Nat.le_of_ble_eq_true rfl)) (Nat.le_of_ble_eq_true rfl) (lw_puts STR_21 A_t (by first | omega | (simp only [List.length_append, List.length_cons, List.length_nil]; omega)) hn) ?_
  intro hh2 c_ s_ hc hs P
  obtain rfl : c_ = 0 := by omega
  obtain rfl : s_ = 0 := by omega
  obtain ⟨A_t, f⟩ := P
  replace A_a := LA_F1 A_a f (by omega)
  replace A_b := LA_F1 A_b f (by omega)
  replace fr := LF_tr1 fr f (Or.inl (by simp))
  refine mi_wp_p (pc' := 249) rfl rfl rfl ?_
  refine mi_wp_p (pc' := 251) (st' := [.int (Int32.ofInt 0)]) rfl rfl rfl ?_
  refine mi_s_if1 (t := 260) rfl rfl rfl (by unfold mi_R; omega) (fun _ => ?_) (fun hc_ => absurd (show (0 : Int) = 0 by omega) hc_)
  exact ls_rv rfl rfl rfl rfl (by show _ ≤ (1 : Int).toNat; omega) (by show _ ≤ 5 * (1 : Int).toNat; omega) ⟨A_t, fr⟩
theorem show_v2 {w : Nat} {wi j : Int} (ne : t ≠ a ∧ t ≠ b ∧ a ≠ b) (hn : n ≤ 100000) (hi : 0 < i ∧ i < 40) (hw : wi = (w : Int) ∧ w < 4) (gk : g i.toNat = 2) (gv : gl (2 : Int).toNat = 2) : SHW X (d + 5) t a b n g gl i w wi (.var 2) := by
  intro h bs A_t A_a A_b hl
  obtain ⟨ne1, ne2, ne3⟩ := ne
  obtain ⟨hw1, hw2⟩ := hw
  unfold LCv LC
  have fr := LF_rf h [t]
  replace hl : (bs.length : Int) + 9 * 1 + 1 < n := hl
  refine mi_wp_p (pc' := 1) (st' := [.ref a]) rfl rfl rfl ?_
  refine mi_wp_p (pc' := 2) (st' := [.int (Int32.ofInt i), .ref a]) rfl rfl rfl ?_
  refine ls_ald (x := 2) A_a rfl rfl (by decide) (by omega) (by omega) gk ?_
  refine mi_wp_p (pc' := 5) (l' := [(5, .int (Int32.ofInt 2)), (0, .ref t), (1, .ref a), (2, .int (Int32.ofInt i)), (3, .int (Int32.ofInt wi)), (4, .ref b)]) (st' := []) rfl rfl rfl ?_
  refine mi_wp_p (pc' := 7) (st' := [.int (Int32.ofInt 2)]) rfl rfl rfl ?_
  refine mi_wp_p (pc' := 8) (st' := [.int (Int32.ofInt 5), .int (Int32.ofInt 2)]) rfl rfl rfl ?_
  refine mi_s_if2 (t := 16) rfl rfl rfl (by unfold mi_R; omega) (by unfold mi_R; omega) (fun _ => ?_) (fun hc_ => absurd (show (2 : Int) ≠ 5 by omega) hc_)
  refine mi_wp_p (pc' := 18) (st' := [.int (Int32.ofInt 2)]) rfl rfl rfl ?_
  refine mi_s_k (pc' := 20) (e := 6) rfl rfl rfl (by decide +kernel) ?_
  refine mi_s_if2 (t := 27) rfl rfl rfl (by unfold mi_R; omega) (by unfold mi_R; omega) (fun _ => ?_) (fun hc_ => absurd (show (2 : Int) ≠ 6 by omega) hc_)
  refine mi_wp_p (pc' := 29) (st' := [.int (Int32.ofInt 2)]) rfl rfl rfl ?_
  refine mi_s_k (pc' := 31) (e := 7) rfl rfl rfl (by decide +kernel) ?_
  refine mi_s_if2 (t := 43) rfl rfl rfl (by unfold mi_R; omega) (by unfold mi_R; omega) (fun _ => ?_) (fun hc_ => absurd (show (2 : Int) ≠ 7 by omega) hc_)
  refine mi_wp_p (pc' := 44) (st' := [.int (Int32.ofInt 0)]) rfl rfl rfl ?_
  refine mi_wp_p (pc' := 46) (l' := [(6, .int (Int32.ofInt 0)), (5, .int (Int32.ofInt 2)), (0, .ref t), (1, .ref a), (2, .int (Int32.ofInt i)), (3, .int (Int32.ofInt wi)), (4, .ref b)]) (st' := []) rfl rfl rfl ?_
  refine mi_wp_p (pc' := 48) (st' := [.int (Int32.ofInt 0)]) rfl rfl rfl ?_
  refine mi_s_if1 (t := 57) rfl rfl rfl (by unfold mi_R; omega) (fun _ => ?_) (fun hc_ => absurd (show (0 : Int) = 0 by omega) hc_)
  refine mi_wp_p (pc' := 59) (st' := [.int (Int32.ofInt 2)]) rfl rfl rfl ?_
  refine mi_wp_p (pc' := 60) (st' := [.int (Int32.ofInt 2), .int (Int32.ofInt 2)]) rfl rfl rfl ?_
  refine mi_s_if2 (t := 82) rfl rfl rfl (by unfold mi_R; omega) (by unfold mi_R; omega) (fun _ => ?_) (fun hc_ => absurd (show 2 ≤ (2 : Int) by omega) hc_)
  refine mi_wp_p (pc' := 84) (st' := [.int (Int32.ofInt 2)]) rfl rfl rfl ?_
  refine mi_wp_p (pc' := 85) (st' := [.int (Int32.ofInt 5), .int (Int32.ofInt 2)]) rfl rfl rfl ?_
  refine mi_s_if2 (t := 159) rfl rfl rfl (by unfold mi_R; omega) (by unfold mi_R; omega) (fun hc_ => absurd (show 5 ≤ (2 : Int) from hc_) (by omega)) (fun _ => ?_)
  refine mi_wp_p (pc' := 90) (st' := [.ref b]) rfl rfl rfl ?_
  refine mi_wp_p (pc' := 92) (st' := [.int (Int32.ofInt 2), .ref b]) rfl rfl rfl ?_
  refine ls_ald (x := 2) A_b rfl rfl (by decide) (by omega) (by omega) gv ?_
  refine mi_s_if1 (t := 113) rfl rfl rfl (by unfold mi_R; omega) (fun _ => ?_) (fun hc_ => absurd (show 0 ≤ (2 : Int) by omega) hc_)
  refine mi_wp_p (pc' := 114) (st' := [.int (Int32.ofInt 5)]) rfl rfl rfl ?_
  refine ls_qnew rfl rfl rfl (by omega) (by omega) ?_
  intro h3_ rs e_rs A_rs f e2_rs
  clear e2_rs
  have ne_t_rs : t ≠ rs := by have := LT_lt A_t; omega
  have ne_a_rs : a ≠ rs := by have := LA_lt A_a; omega
  have ne_b_rs : b ≠ rs := by have := LA_lt A_b; omega
  replace A_t := LT_F0 A_t f
  replace A_a := LA_F0 A_a f
  replace A_b := LA_F0 A_b f
  replace fr := LF_tr0 fr f
  refine mi_wp_p (pc' := 118) (st' := [.ref rs, .ref rs]) rfl rfl rfl ?_
  refine mi_wp_p (pc' := 119) (st' := [.int (Int32.ofInt 0), .ref rs, .ref rs]) rfl rfl rfl ?_
  refine mi_s_lds (i := 22) rfl rfl rfl rfl rfl ?_
  refine ls_qst A_rs rfl rfl (by omega) (by omega) (by omega) (by decide) ?_
  intro h4_ A_rs f
  replace A_t := LT_F1 A_t f (by omega)
  replace A_a := LA_F1 A_a f (by omega)
  replace A_b := LA_F1 A_b f (by omega)
  replace fr := LF_tr1 fr f (Or.inr (by omega))
  refine mi_wp_p (pc' := 123) (st' := [.ref rs, .ref rs]) rfl rfl rfl ?_
  refine mi_wp_p (pc' := 124) (st' := [.int (Int32.ofInt 1), .ref rs, .ref rs]) rfl rfl rfl ?_
  refine mi_s_lds (i := 23) rfl rfl rfl rfl rfl ?_
  refine ls_qst A_rs rfl rfl (by omega) (by omega) (by omega) (by decide) ?_
  intro h5_ A_rs f
  replace A_t := LT_F1 A_t f (by omega)
  replace A_a := LA_F1 A_a f (by omega)
  replace A_b := LA_F1 A_b f (by omega)
  replace fr := LF_tr1 fr f (Or.inr (by omega))
  refine mi_wp_p (pc' := 128) (st' := [.ref rs, .ref rs]) rfl rfl rfl ?_
  refine mi_wp_p (pc' := 129) (st' := [.int (Int32.ofInt 2), .ref rs, .ref rs]) rfl rfl rfl ?_
  refine mi_s_lds (i := 24) rfl rfl rfl rfl rfl ?_
  refine ls_qst A_rs rfl rfl (by omega) (by omega) (by omega) (by decide) ?_
  intro h6_ A_rs f
  replace A_t := LT_F1 A_t f (by omega)
  replace A_a := LA_F1 A_a f (by omega)
  replace A_b := LA_F1 A_b f (by omega)
  replace fr := LF_tr1 fr f (Or.inr (by omega))
  refine mi_wp_p (pc' := 133) (st' := [.ref rs, .ref rs]) rfl rfl rfl ?_
  refine mi_wp_p (pc' := 134) (st' := [.int (Int32.ofInt 3), .ref rs, .ref rs]) rfl rfl rfl ?_
  refine mi_s_lds (i := 25) rfl rfl rfl rfl rfl ?_
  refine ls_qst A_rs rfl rfl (by omega) (by omega) (by omega) (by decide) ?_
  intro h7_ A_rs f
  replace A_t := LT_F1 A_t f (by omega)
  replace A_a := LA_F1 A_a f (by omega)
  replace A_b := LA_F1 A_b f (by omega)
  replace fr := LF_tr1 fr f (Or.inr (by omega))
  refine mi_wp_p (pc' := 138) (st' := [.ref rs, .ref rs]) rfl rfl rfl ?_
  refine mi_wp_p (pc' := 139) (st' := [.int (Int32.ofInt 4), .ref rs, .ref rs]) rfl rfl rfl ?_
  refine mi_s_lds (i := 26) rfl rfl rfl rfl rfl ?_
  refine ls_qst A_rs rfl rfl (by omega) (by omega) (by omega) (by decide) ?_
  intro h8_ A_rs f
  replace A_t := LT_F1 A_t f (by omega)
  replace A_a := LA_F1 A_a f (by omega)
  replace A_b := LA_F1 A_b f (by omega)
  replace fr := LF_tr1 fr f (Or.inr (by omega))
  refine mi_wp_p (pc' := 144) (l' := [(7, .ref rs), (6, .int (Int32.ofInt 0)), (5, .int (Int32.ofInt 2)), (0, .ref t), (1, .ref a), (2, .int (Int32.ofInt i)), (3, .int (Int32.ofInt wi)), (4, .ref b)]) (st' := []) rfl rfl rfl ?_
  refine mi_wp_p (pc' := 145) (st' := [.ref t]) rfl rfl rfl ?_
  refine mi_wp_p (pc' := 147) (st' := [.ref rs, .ref t]) rfl rfl rfl ?_
  refine mi_wp_p (pc' := 149) (st' := [.ref b, .ref rs, .ref t]) rfl rfl rfl ?_
  refine mi_wp_p (pc' := 151) (st' := [.int (Int32.ofInt 2), .ref b, .ref rs, .ref t]) rfl rfl rfl ?_
  refine ls_ald (x := 2) A_b rfl rfl (by decide) (by omega) (by omega) gv ?_
  refine ls_qld (k := 96) A_rs rfl rfl (by omega) (by omega) (by omega) rfl ?_
  refine ls_cv rfl rfl rfl rfl rfl rfl (mi_cal_s2 (np := 2) (args := [.ref t, .retAddr 96]) (rest := []) rfl rfl rfl (Or.inl rfl) rfl (Nat.le_of_ble_eq_true rfl) rfl rfl (Nat.le_of_ble_eq_true rfl)) (Nat.le_of_ble_eq_true rfl) (lw_puts STR_24 A_t (by first | omega | (simp only [List.length_append, List.length_cons, List.length_nil]; omega)) hn) ?_
  intro hh9 c_ s_ hc hs P
  obtain rfl : c_ = 0 := by omega
  obtain rfl : s_ = 0 := by omega
  obtain ⟨A_t, f⟩ := P
  replace A_a := LA_F1 A_a f (by omega)
  replace A_b := LA_F1 A_b f (by omega)
  replace A_rs := LR_F1 A_rs f (by omega)
  replace fr := LF_tr1 fr f (Or.inl (by simp))
  refine mi_wp_p (pc' := 249) rfl rfl rfl ?_
  refine mi_wp_p (pc' := 251) (st' := [.int (Int32.ofInt 0)]) rfl rfl rfl ?_
  refine mi_s_if1 (t := 260) rfl rfl rfl (by unfold mi_R; omega) (fun _ => ?_) (fun hc_ => absurd (show (0 : Int) = 0 by omega) hc_)
  exact ls_rv rfl rfl rfl rfl (by show _ ≤ (1 : Int).toNat; omega) (by show _ ≤ 5 * (1 : Int).toNat; omega) ⟨A_t, fr⟩
theorem show_v0 {w : Nat} {wi j : Int} (ne : t ≠ a ∧ t ≠ b ∧ a ≠ b) (hn : n ≤ 100000) (hi : 0 < i ∧ i < 40) (hw : wi = (w : Int) ∧ w < 4) (gk : g i.toNat = 3) (gv : gl (3 : Int).toNat = 0) : SHW X (d + 5) t a b n g gl i w wi (.var 0) := by
  intro h bs A_t A_a A_b hl
  obtain ⟨ne1, ne2, ne3⟩ := ne
  obtain ⟨hw1, hw2⟩ := hw
  unfold LCv LC
  have fr := LF_rf h [t]
  replace hl : (bs.length : Int) + 9 * 1 + 1 < n := hl
  refine mi_wp_p (pc' := 1) (st' := [.ref a]) rfl rfl rfl ?_
  refine mi_wp_p (pc' := 2) (st' := [.int (Int32.ofInt i), .ref a]) rfl rfl rfl ?_
  refine ls_ald (x := 3) A_a rfl rfl (by decide) (by omega) (by omega) gk ?_
  refine mi_wp_p (pc' := 5) (l' := [(5, .int (Int32.ofInt 3)), (0, .ref t), (1, .ref a), (2, .int (Int32.ofInt i)), (3, .int (Int32.ofInt wi)), (4, .ref b)]) (st' := []) rfl rfl rfl ?_
  refine mi_wp_p (pc' := 7) (st' := [.int (Int32.ofInt 3)]) rfl rfl rfl ?_
  refine mi_wp_p (pc' := 8) (st' := [.int (Int32.ofInt 5), .int (Int32.ofInt 3)]) rfl rfl rfl ?_
  refine mi_s_if2 (t := 16) rfl rfl rfl (by unfold mi_R; omega) (by unfold mi_R; omega) (fun _ => ?_) (fun hc_ => absurd (show (3 : Int) ≠ 5 by omega) hc_)
  refine mi_wp_p (pc' := 18) (st' := [.int (Int32.ofInt 3)]) rfl rfl rfl ?_
  refine mi_s_k (pc' := 20) (e := 6) rfl rfl rfl (by decide +kernel) ?_
  refine mi_s_if2 (t := 27) rfl rfl rfl (by unfold mi_R; omega) (by unfold mi_R; omega) (fun _ => ?_) (fun hc_ => absurd (show (3 : Int) ≠ 6 by omega) hc_)
  refine mi_wp_p (pc' := 29) (st' := [.int (Int32.ofInt 3)]) rfl rfl rfl ?_
  refine mi_s_k (pc' := 31) (e := 7) rfl rfl rfl (by decide +kernel) ?_
  refine mi_s_if2 (t := 43) rfl rfl rfl (by unfold mi_R; omega) (by unfold mi_R; omega) (fun _ => ?_) (fun hc_ => absurd (show (3 : Int) ≠ 7 by omega) hc_)
  refine mi_wp_p (pc' := 44) (st' := [.int (Int32.ofInt 0)]) rfl rfl rfl ?_
  refine mi_wp_p (pc' := 46) (l' := [(6, .int (Int32.ofInt 0)), (5, .int (Int32.ofInt 3)), (0, .ref t), (1, .ref a), (2, .int (Int32.ofInt i)), (3, .int (Int32.ofInt wi)), (4, .ref b)]) (st' := []) rfl rfl rfl ?_
  refine mi_wp_p (pc' := 48) (st' := [.int (Int32.ofInt 0)]) rfl rfl rfl ?_
  refine mi_s_if1 (t := 57) rfl rfl rfl (by unfold mi_R; omega) (fun _ => ?_) (fun hc_ => absurd (show (0 : Int) = 0 by omega) hc_)
  refine mi_wp_p (pc' := 59) (st' := [.int (Int32.ofInt 3)]) rfl rfl rfl ?_
  refine mi_wp_p (pc' := 60) (st' := [.int (Int32.ofInt 2), .int (Int32.ofInt 3)]) rfl rfl rfl ?_
  refine mi_s_if2 (t := 82) rfl rfl rfl (by unfold mi_R; omega) (by unfold mi_R; omega) (fun _ => ?_) (fun hc_ => absurd (show 2 ≤ (3 : Int) by omega) hc_)
  refine mi_wp_p (pc' := 84) (st' := [.int (Int32.ofInt 3)]) rfl rfl rfl ?_
  refine mi_wp_p (pc' := 85) (st' := [.int (Int32.ofInt 5), .int (Int32.ofInt 3)]) rfl rfl rfl ?_
  refine mi_s_if2 (t := 159) rfl rfl rfl (by unfold mi_R; omega) (by unfold mi_R; omega) (fun hc_ => absurd (show 5 ≤ (3 : Int) from hc_) (by omega)) (fun _ => ?_)
  refine mi_wp_p (pc' := 90) (st' := [.ref b]) rfl rfl rfl ?_
  refine mi_wp_p (pc' := 92) (st' := [.int (Int32.ofInt 3), .ref b]) rfl rfl rfl ?_
  refine ls_ald (x := 0) A_b rfl rfl (by decide) (by omega) (by omega) gv ?_
  refine mi_s_if1 (t := 113) rfl rfl rfl (by unfold mi_R; omega) (fun _ => ?_) (fun hc_ => absurd (show 0 ≤ (0 : Int) by omega) hc_)
  refine mi_wp_p (pc' := 114) (st' := [.int (Int32.ofInt 5)]) rfl rfl rfl ?_
  refine ls_qnew rfl rfl rfl (by omega) (by omega) ?_
  intro h10_ rs e_rs A_rs f e2_rs
  clear e2_rs
  have ne_t_rs : t ≠ rs := by have := LT_lt A_t; omega
  have ne_a_rs : a ≠ rs := by have := LA_lt A_a; omega
  have ne_b_rs : b ≠ rs := by have := LA_lt A_b; omega
  replace A_t := LT_F0 A_t f
  replace A_a := LA_F0 A_a f
  replace A_b := LA_F0 A_b f
  replace fr := LF_tr0 fr f
  refine mi_wp_p (pc' := 118) (st' := [.ref rs, .ref rs]) rfl rfl rfl ?_
  refine mi_wp_p (pc' := 119) (st' := [.int (Int32.ofInt 0), .ref rs, .ref rs]) rfl rfl rfl ?_
  refine mi_s_lds (i := 22) rfl rfl rfl rfl rfl ?_
  refine ls_qst A_rs rfl rfl (by omega) (by omega) (by omega) (by decide) ?_
  intro h11_ A_rs f
  replace A_t := LT_F1 A_t f (by omega)
  replace A_a := LA_F1 A_a f (by omega)
  replace A_b := LA_F1 A_b f (by omega)
  replace fr := LF_tr1 fr f (Or.inr (by omega))
  refine mi_wp_p (pc' := 123) (st' := [.ref rs, .ref rs]) rfl rfl rfl ?_
  refine mi_wp_p (pc' := 124) (st' := [.int (Int32.ofInt 1), .ref rs, .ref rs]) rfl rfl rfl ?_
  refine mi_s_lds (i := 23) rfl rfl rfl rfl rfl ?_
  refine ls_qst A_rs rfl rfl (by omega) (by omega) (by omega) (by decide) ?_
  intro h12_ A_rs f
  replace A_t := LT_F1 A_t f (by omega)
  replace A_a := LA_F1 A_a f (by omega)
  replace A_b := LA_F1 A_b f (by omega)
  replace fr := LF_tr1 fr f (Or.inr (by omega))
  refine mi_wp_p (pc' := 128) (st' := [.ref rs, .ref rs]) rfl rfl rfl ?_
  refine mi_wp_p (pc' := 129) (st' := [.int (Int32.ofInt 2), .ref rs, .ref rs]) rfl rfl rfl ?_
  refine mi_s_lds (i := 24) rfl rfl rfl rfl rfl ?_
  refine ls_qst A_rs rfl rfl (by omega) (by omega) (by omega) (by decide) ?_
  intro h13_ A_rs f
  replace A_t := LT_F1 A_t f (by omega)
  replace A_a := LA_F1 A_a f (by omega)
  replace A_b := LA_F1 A_b f (by omega)
  replace fr := LF_tr1 fr f (Or.inr (by omega))
  refine mi_wp_p (pc' := 133) (st' := [.ref rs, .ref rs]) rfl rfl rfl ?_
  refine mi_wp_p (pc' := 134) (st' := [.int (Int32.ofInt 3), .ref rs, .ref rs]) rfl rfl rfl ?_
  refine mi_s_lds (i := 25) rfl rfl rfl rfl rfl ?_
  refine ls_qst A_rs rfl rfl (by omega) (by omega) (by omega) (by decide) ?_
  intro h14_ A_rs f
  replace A_t := LT_F1 A_t f (by omega)
  replace A_a := LA_F1 A_a f (by omega)
  replace A_b := LA_F1 A_b f (by omega)
  replace fr := LF_tr1 fr f (Or.inr (by omega))
  refine mi_wp_p (pc' := 138) (st' := [.ref rs, .ref rs]) rfl rfl rfl ?_
  refine mi_wp_p (pc' := 139) (st' := [.int (Int32.ofInt 4), .ref rs, .ref rs]) rfl rfl rfl ?_
  refine mi_s_lds (i := 26) rfl rfl rfl rfl rfl ?_
  refine ls_qst A_rs rfl rfl (by omega) (by omega) (by omega) (by decide) ?_
  intro h15_ A_rs f
  replace A_t := LT_F1 A_t f (by omega)
  replace A_a := LA_F1 A_a f (by omega)
  replace A_b := LA_F1 A_b f (by omega)
  replace fr := LF_tr1 fr f (Or.inr (by omega))
  refine mi_wp_p (pc' := 144) (l' := [(7, .ref rs), (6, .int (Int32.ofInt 0)), (5, .int (Int32.ofInt 3)), (0, .ref t), (1, .ref a), (2, .int (Int32.ofInt i)), (3, .int (Int32.ofInt wi)), (4, .ref b)]) (st' := []) rfl rfl rfl ?_
  refine mi_wp_p (pc' := 145) (st' := [.ref t]) rfl rfl rfl ?_
  refine mi_wp_p (pc' := 147) (st' := [.ref rs, .ref t]) rfl rfl rfl ?_
  refine mi_wp_p (pc' := 149) (st' := [.ref b, .ref rs, .ref t]) rfl rfl rfl ?_
  refine mi_wp_p (pc' := 151) (st' := [.int (Int32.ofInt 3), .ref b, .ref rs, .ref t]) rfl rfl rfl ?_
  refine ls_ald (x := 0) A_b rfl rfl (by decide) (by omega) (by omega) gv ?_
  refine ls_qld (k := 88) A_rs rfl rfl (by omega) (by omega) (by omega) rfl ?_
  refine ls_cv rfl rfl rfl rfl rfl rfl (mi_cal_s2 (np := 2) (args := [.ref t, .retAddr 88]) (rest := []) rfl rfl rfl (Or.inl rfl) rfl (Nat.le_of_ble_eq_true rfl) rfl rfl (Nat.le_of_ble_eq_true rfl)) (Nat.le_of_ble_eq_true rfl) (lw_puts STR_22 A_t (by first | omega | (simp only [List.length_append, List.length_cons, List.length_nil]; omega)) hn) ?_
  intro hh16 c_ s_ hc hs P
  obtain rfl : c_ = 0 := by omega
  obtain rfl : s_ = 0 := by omega
  obtain ⟨A_t, f⟩ := P
  replace A_a := LA_F1 A_a f (by omega)
  replace A_b := LA_F1 A_b f (by omega)
  replace A_rs := LR_F1 A_rs f (by omega)
  replace fr := LF_tr1 fr f (Or.inl (by simp))
  refine mi_wp_p (pc' := 249) rfl rfl rfl ?_
  refine mi_wp_p (pc' := 251) (st' := [.int (Int32.ofInt 0)]) rfl rfl rfl ?_
  refine mi_s_if1 (t := 260) rfl rfl rfl (by unfold mi_R; omega) (fun _ => ?_) (fun hc_ => absurd (show (0 : Int) = 0 by omega) hc_)
  exact ls_rv rfl rfl rfl rfl (by show _ ≤ (1 : Int).toNat; omega) (by show _ ≤ 5 * (1 : Int).toNat; omega) ⟨A_t, fr⟩
theorem show_v1 {w : Nat} {wi j : Int} (ne : t ≠ a ∧ t ≠ b ∧ a ≠ b) (hn : n ≤ 100000) (hi : 0 < i ∧ i < 40) (hw : wi = (w : Int) ∧ w < 4) (gk : g i.toNat = 4) (gv : gl (4 : Int).toNat = 1) : SHW X (d + 5) t a b n g gl i w wi (.var 1) := by
  intro h bs A_t A_a A_b hl
  obtain ⟨ne1, ne2, ne3⟩ := ne
  obtain ⟨hw1, hw2⟩ := hw
  unfold LCv LC
  have fr := LF_rf h [t]
  replace hl : (bs.length : Int) + 9 * 1 + 1 < n := hl
  refine mi_wp_p (pc' := 1) (st' := [.ref a]) rfl rfl rfl ?_
  refine mi_wp_p (pc' := 2) (st' := [.int (Int32.ofInt i), .ref a]) rfl rfl rfl ?_
  refine ls_ald (x := 4) A_a rfl rfl (by decide) (by omega) (by omega) gk ?_
  refine mi_wp_p (pc' := 5) (l' := [(5, .int (Int32.ofInt 4)), (0, .ref t), (1, .ref a), (2, .int (Int32.ofInt i)), (3, .int (Int32.ofInt wi)), (4, .ref b)]) (st' := []) rfl rfl rfl ?_
  refine mi_wp_p (pc' := 7) (st' := [.int (Int32.ofInt 4)]) rfl rfl rfl ?_
  refine mi_wp_p (pc' := 8) (st' := [.int (Int32.ofInt 5), .int (Int32.ofInt 4)]) rfl rfl rfl ?_
  refine mi_s_if2 (t := 16) rfl rfl rfl (by unfold mi_R; omega) (by unfold mi_R; omega) (fun _ => ?_) (fun hc_ => absurd (show (4 : Int) ≠ 5 by omega) hc_)
  refine mi_wp_p (pc' := 18) (st' := [.int (Int32.ofInt 4)]) rfl rfl rfl ?_
  refine mi_s_k (pc' := 20) (e := 6) rfl rfl rfl (by decide +kernel) ?_
  refine mi_s_if2 (t := 27) rfl rfl rfl (by unfold mi_R; omega) (by unfold mi_R; omega) (fun _ => ?_) (fun hc_ => absurd (show (4 : Int) ≠ 6 by omega) hc_)
  refine mi_wp_p (pc' := 29) (st' := [.int (Int32.ofInt 4)]) rfl rfl rfl ?_
  refine mi_s_k (pc' := 31) (e := 7) rfl rfl rfl (by decide +kernel) ?_
  refine mi_s_if2 (t := 43) rfl rfl rfl (by unfold mi_R; omega) (by unfold mi_R; omega) (fun _ => ?_) (fun hc_ => absurd (show (4 : Int) ≠ 7 by omega) hc_)
  refine mi_wp_p (pc' := 44) (st' := [.int (Int32.ofInt 0)]) rfl rfl rfl ?_
  refine mi_wp_p (pc' := 46) (l' := [(6, .int (Int32.ofInt 0)), (5, .int (Int32.ofInt 4)), (0, .ref t), (1, .ref a), (2, .int (Int32.ofInt i)), (3, .int (Int32.ofInt wi)), (4, .ref b)]) (st' := []) rfl rfl rfl ?_
  refine mi_wp_p (pc' := 48) (st' := [.int (Int32.ofInt 0)]) rfl rfl rfl ?_
  refine mi_s_if1 (t := 57) rfl rfl rfl (by unfold mi_R; omega) (fun _ => ?_) (fun hc_ => absurd (show (0 : Int) = 0 by omega) hc_)
  refine mi_wp_p (pc' := 59) (st' := [.int (Int32.ofInt 4)]) rfl rfl rfl ?_
  refine mi_wp_p (pc' := 60) (st' := [.int (Int32.ofInt 2), .int (Int32.ofInt 4)]) rfl rfl rfl ?_
  refine mi_s_if2 (t := 82) rfl rfl rfl (by unfold mi_R; omega) (by unfold mi_R; omega) (fun _ => ?_) (fun hc_ => absurd (show 2 ≤ (4 : Int) by omega) hc_)
  refine mi_wp_p (pc' := 84) (st' := [.int (Int32.ofInt 4)]) rfl rfl rfl ?_
  refine mi_wp_p (pc' := 85) (st' := [.int (Int32.ofInt 5), .int (Int32.ofInt 4)]) rfl rfl rfl ?_
  refine mi_s_if2 (t := 159) rfl rfl rfl (by unfold mi_R; omega) (by unfold mi_R; omega) (fun hc_ => absurd (show 5 ≤ (4 : Int) from hc_) (by omega)) (fun _ => ?_)
  refine mi_wp_p (pc' := 90) (st' := [.ref b]) rfl rfl rfl ?_
  refine mi_wp_p (pc' := 92) (st' := [.int (Int32.ofInt 4), .ref b]) rfl rfl rfl ?_
  refine ls_ald (x := 1) A_b rfl rfl (by decide) (by omega) (by omega) gv ?_
  refine mi_s_if1 (t := 113) rfl rfl rfl (by unfold mi_R; omega) (fun _ => ?_) (fun hc_ => absurd (show 0 ≤ (1 : Int) by omega) hc_)
  refine mi_wp_p (pc' := 114) (st' := [.int (Int32.ofInt 5)]) rfl rfl rfl ?_
  refine ls_qnew rfl rfl rfl (by omega) (by omega) ?_
  intro h17_ rs e_rs A_rs f e2_rs
  clear e2_rs
  have ne_t_rs : t ≠ rs := by have := LT_lt A_t; omega
  have ne_a_rs : a ≠ rs := by have := LA_lt A_a; omega
  have ne_b_rs : b ≠ rs := by have := LA_lt A_b; omega
  replace A_t := LT_F0 A_t f
  replace A_a := LA_F0 A_a f
  replace A_b := LA_F0 A_b f
  replace fr := LF_tr0 fr f
  refine mi_wp_p (pc' := 118) (st' := [.ref rs, .ref rs]) rfl rfl rfl ?_
  refine mi_wp_p (pc' := 119) (st' := [.int (Int32.ofInt 0), .ref rs, .ref rs]) rfl rfl rfl ?_
  refine mi_s_lds (i := 22) rfl rfl rfl rfl rfl ?_
  refine ls_qst A_rs rfl rfl (by omega) (by omega) (by omega) (by decide) ?_
  intro h18_ A_rs f
  replace A_t := LT_F1 A_t f (by omega)
  replace A_a := LA_F1 A_a f (by omega)
  replace A_b := LA_F1 A_b f (by omega)
  replace fr := LF_tr1 fr f (Or.inr (by omega))
  refine mi_wp_p (pc' := 123) (st' := [.ref rs, .ref rs]) rfl rfl rfl ?_
  refine mi_wp_p (pc' := 124) (st' := [.int (Int32.ofInt 1), .ref rs, .ref rs]) rfl rfl rfl ?_
  refine mi_s_lds (i := 23) rfl rfl rfl rfl rfl ?_
  refine ls_qst A_rs rfl rfl (by omega) (by omega) (by omega) (by decide) ?_
  intro h19_ A_rs f
  replace A_t := LT_F1 A_t f (by omega)
  replace A_a := LA_F1 A_a f (by omega)
  replace A_b := LA_F1 A_b f (by omega)
  replace fr := LF_tr1 fr f (Or.inr (by omega))
  refine mi_wp_p (pc' := 128) (st' := [.ref rs, .ref rs]) rfl rfl rfl ?_
  refine mi_wp_p (pc' := 129) (st' := [.int (Int32.ofInt 2), .ref rs, .ref rs]) rfl rfl rfl ?_
  refine mi_s_lds (i := 24) rfl rfl rfl rfl rfl ?_
  refine ls_qst A_rs rfl rfl (by omega) (by omega) (by omega) (by decide) ?_
  intro h20_ A_rs f
  replace A_t := LT_F1 A_t f (by omega)
  replace A_a := LA_F1 A_a f (by omega)
  replace A_b := LA_F1 A_b f (by omega)
  replace fr := LF_tr1 fr f (Or.inr (by omega))
  refine mi_wp_p (pc' := 133) (st' := [.ref rs, .ref rs]) rfl rfl rfl ?_
  refine mi_wp_p (pc' := 134) (st' := [.int (Int32.ofInt 3), .ref rs, .ref rs]) rfl rfl rfl ?_
  refine mi_s_lds (i := 25) rfl rfl rfl rfl rfl ?_
  refine ls_qst A_rs rfl rfl (by omega) (by omega) (by omega) (by decide) ?_
  intro h21_ A_rs f
  replace A_t := LT_F1 A_t f (by omega)
  replace A_a := LA_F1 A_a f (by omega)
  replace A_b := LA_F1 A_b f (by omega)
  replace fr := LF_tr1 fr f (Or.inr (by omega))
  refine mi_wp_p (pc' := 138) (st' := [.ref rs, .ref rs]) rfl rfl rfl ?_
  refine mi_wp_p (pc' := 139) (st' := [.int (Int32.ofInt 4), .ref rs, .ref rs]) rfl rfl rfl ?_
  refine mi_s_lds (i := 26) rfl rfl rfl rfl rfl ?_
  refine ls_qst A_rs rfl rfl (by omega) (by omega) (by omega) (by decide) ?_
  intro h22_ A_rs f
  replace A_t := LT_F1 A_t f (by omega)
  replace A_a := LA_F1 A_a f (by omega)
  replace A_b := LA_F1 A_b f (by omega)
  replace fr := LF_tr1 fr f (Or.inr (by omega))
  refine mi_wp_p (pc' := 144) (l' := [(7, .ref rs), (6, .int (Int32.ofInt 0)), (5, .int (Int32.ofInt 4)), (0, .ref t), (1, .ref a), (2, .int (Int32.ofInt i)), (3, .int (Int32.ofInt wi)), (4, .ref b)]) (st' := []) rfl rfl rfl ?_
  refine mi_wp_p (pc' := 145) (st' := [.ref t]) rfl rfl rfl ?_
  refine mi_wp_p (pc' := 147) (st' := [.ref rs, .ref t]) rfl rfl rfl ?_
  refine mi_wp_p (pc' := 149) (st' := [.ref b, .ref rs, .ref t]) rfl rfl rfl ?_
  refine mi_wp_p (pc' := 151) (st' := [.int (Int32.ofInt 4), .ref b, .ref rs, .ref t]) rfl rfl rfl ?_
  refine ls_ald (x := 1) A_b rfl rfl (by decide) (by omega) (by omega) gv ?_
  refine ls_qld (k := 92) A_rs rfl rfl (by omega) (by omega) (by omega) rfl ?_
  refine ls_cv rfl rfl rfl rfl rfl rfl (mi_cal_s2 (np := 2) (args := [.ref t, .retAddr 92]) (rest := []) rfl rfl rfl (Or.inl rfl) rfl (Nat.le_of_ble_eq_true rfl) rfl rfl (Nat.le_of_ble_eq_true rfl)) (Nat.le_of_ble_eq_true rfl) (lw_puts STR_23 A_t (by first | omega | (simp only [List.length_append, List.length_cons, List.length_nil]; omega)) hn) ?_
  intro hh23 c_ s_ hc hs P
  obtain rfl : c_ = 0 := by omega
  obtain rfl : s_ = 0 := by omega
  obtain ⟨A_t, f⟩ := P
  replace A_a := LA_F1 A_a f (by omega)
  replace A_b := LA_F1 A_b f (by omega)
  replace A_rs := LR_F1 A_rs f (by omega)
  replace fr := LF_tr1 fr f (Or.inl (by simp))
  refine mi_wp_p (pc' := 249) rfl rfl rfl ?_
  refine mi_wp_p (pc' := 251) (st' := [.int (Int32.ofInt 0)]) rfl rfl rfl ?_
  refine mi_s_if1 (t := 260) rfl rfl rfl (by unfold mi_R; omega) (fun _ => ?_) (fun hc_ => absurd (show (0 : Int) = 0 by omega) hc_)
  exact ls_rv rfl rfl rfl rfl (by show _ ≤ (1 : Int).toNat; omega) (by show _ ≤ 5 * (1 : Int).toNat; omega) ⟨A_t, fr⟩
theorem show_5 {w : Nat} {wi j : Int} (ne : t ≠ a ∧ t ≠ b ∧ a ≠ b) (hn : n ≤ 100000) (hi : 0 < i ∧ i < 40) (hw : wi = (w : Int) ∧ w < 4) (gk : g i.toNat = 5) (w1 : wt e1) (w2 : wt e2) (H1 : SHW X (d + 4) t a b n g gl (i + 1) 2 2 e1) (Hb : ∀ h, LA h a 40 g → LCi X (d + 4) mi_M168 [(0, .ref a), (1, .int (Int32.ofInt (i + 1)))] h 0 0 (fun x h' => x = j ∧ h' = h)) (H2 : SHW X (d + 4) t a b n g gl j 2 2 e2) : SHW X (d + 5) t a b n g gl i w wi (tn 5 e1 e2 tr_0) := by
  intro h bs A_t A_a A_b hl
  obtain ⟨ne1, ne2, ne3⟩ := ne
  obtain ⟨hw1, hw2⟩ := hw
  unfold LCv LC
  have fr := LF_rf h [t]
  rw [pz_tn5] at hl ⊢
  have la := wrp_9 (w := 2) w1
  have lb := wrp_9 (w := 2) w2
  have za := pz_0 e1
  have zb := pz_0 e2
  refine mi_wp_p (pc' := 1) (st' := [.ref a]) rfl rfl rfl ?_
  refine mi_wp_p (pc' := 2) (st' := [.int (Int32.ofInt i), .ref a]) rfl rfl rfl ?_
  refine ls_ald (x := 5) A_a rfl rfl (by decide) (by omega) (by omega) gk ?_
  refine mi_wp_p (pc' := 5) (l' := [(5, .int (Int32.ofInt 5)), (0, .ref t), (1, .ref a), (2, .int (Int32.ofInt i)), (3, .int (Int32.ofInt wi)), (4, .ref b)]) (st' := []) rfl rfl rfl ?_
  refine mi_wp_p (pc' := 7) (st' := [.int (Int32.ofInt 5)]) rfl rfl rfl ?_
  refine mi_wp_p (pc' := 8) (st' := [.int (Int32.ofInt 5), .int (Int32.ofInt 5)]) rfl rfl rfl ?_
  refine mi_s_if2 (t := 16) rfl rfl rfl (by unfold mi_R; omega) (by unfold mi_R; omega) (fun hc_ => absurd (show (5 : Int) ≠ 5 from hc_) (by omega)) (fun _ => ?_)
  refine mi_wp_p (pc' := 12) (st' := [.int (Int32.ofInt wi)]) rfl rfl rfl ?_
  refine mi_wp_p (pc' := 13) (st' := [.int (Int32.ofInt 1), .int (Int32.ofInt wi)]) rfl rfl rfl ?_
  refine mi_s_if2 (t := 39) rfl rfl rfl (by unfold mi_R; omega) (by unfold mi_R; omega) ?_ ?_
  · intro (c24 : 1 < wi)
    refine mi_wp_p (pc' := 40) (st' := [.int (Int32.ofInt 1)]) rfl rfl rfl ?_
    refine mi_wp_p (pc' := 44) rfl rfl rfl ?_
    refine mi_wp_p (pc' := 46) (l' := [(6, .int (Int32.ofInt 1)), (5, .int (Int32.ofInt 5)), (0, .ref t), (1, .ref a), (2, .int (Int32.ofInt i)), (3, .int (Int32.ofInt wi)), (4, .ref b)]) (st' := []) rfl rfl rfl ?_
    refine mi_wp_p (pc' := 48) (st' := [.int (Int32.ofInt 1)]) rfl rfl rfl ?_
    refine mi_s_if1 (t := 57) rfl rfl rfl (by unfold mi_R; omega) (fun hc_ => absurd (show (1 : Int) = 0 from hc_) (by omega)) (fun _ => ?_)
    refine mi_wp_p (pc' := 52) (st' := [.ref t]) rfl rfl rfl ?_
    refine mi_s_lds (i := 19) rfl rfl rfl rfl rfl ?_
    refine ls_cv rfl rfl rfl rfl rfl rfl (mi_cal_s2 (np := 2) (args := [.ref t, .retAddr 76]) (rest := []) rfl rfl rfl (Or.inl rfl) rfl (Nat.le_of_ble_eq_true rfl) rfl rfl (Nat.le_of_ble_eq_true rfl)) (Nat.le_of_ble_eq_true rfl) (lw_puts STR_19 A_t (by first | omega | (simp only [List.length_append, List.length_cons, List.length_nil]; omega)) hn) ?_
    intro hh25 c_ s_ hc hs P
    obtain rfl : c_ = 0 := by omega
    obtain rfl : s_ = 0 := by omega
    obtain ⟨A_t, f⟩ := P
    replace A_a := LA_F1 A_a f (by omega)
    replace A_b := LA_F1 A_b f (by omega)
    replace fr := LF_tr1 fr f (Or.inl (by simp))
    refine mi_wp_p (pc' := 59) (st' := [.int (Int32.ofInt 5)]) rfl rfl rfl ?_
    refine mi_wp_p (pc' := 60) (st' := [.int (Int32.ofInt 2), .int (Int32.ofInt 5)]) rfl rfl rfl ?_
    refine mi_s_if2 (t := 82) rfl rfl rfl (by unfold mi_R; omega) (by unfold mi_R; omega) (fun _ => ?_) (fun hc_ => absurd (show 2 ≤ (5 : Int) by omega) hc_)
    refine mi_wp_p (pc' := 84) (st' := [.int (Int32.ofInt 5)]) rfl rfl rfl ?_
    refine mi_wp_p (pc' := 85) (st' := [.int (Int32.ofInt 5), .int (Int32.ofInt 5)]) rfl rfl rfl ?_
    refine mi_s_if2 (t := 159) rfl rfl rfl (by unfold mi_R; omega) (by unfold mi_R; omega) (fun _ => ?_) (fun hc_ => absurd (show 5 ≤ (5 : Int) by omega) hc_)
    refine mi_wp_p (pc' := 161) (st' := [.int (Int32.ofInt 5)]) rfl rfl rfl ?_
    refine mi_s_k (pc' := 163) (e := 7) rfl rfl rfl (by decide +kernel) ?_
    refine mi_s_if2 (t := 186) rfl rfl rfl (by unfold mi_R; omega) (by unfold mi_R; omega) (fun _ => ?_) (fun hc_ => absurd (show (5 : Int) ≠ 7 by omega) hc_)
    refine mi_wp_p (pc' := 187) (st' := [.ref t]) rfl rfl rfl ?_
    refine mi_wp_p (pc' := 188) (st' := [.ref a, .ref t]) rfl rfl rfl ?_
    refine mi_wp_p (pc' := 189) (st' := [.int (Int32.ofInt i), .ref a, .ref t]) rfl rfl rfl ?_
    refine mi_wp_p (pc' := 190) (st' := [.int (Int32.ofInt 1), .int (Int32.ofInt i), .ref a, .ref t]) rfl rfl rfl ?_
    refine mi_s_add rfl rfl ?_
    refine mi_wp_p (pc' := 193) (st' := [.int (Int32.ofInt 5), .int (Int32.ofInt (i + 1)), .ref a, .ref t]) rfl rfl rfl ?_
    refine mi_wp_p (pc' := 194) (st' := [.int (Int32.ofInt 5), .int (Int32.ofInt 5), .int (Int32.ofInt (i + 1)), .ref a, .ref t]) rfl rfl rfl ?_
    refine mi_s_if2 (t := 201) rfl rfl rfl (by unfold mi_R; omega) (by unfold mi_R; omega) (fun hc_ => absurd (show (5 : Int) ≠ 5 from hc_) (by omega)) (fun _ => ?_)
    refine mi_wp_p (pc' := 198) (st' := [.int (Int32.ofInt 2), .int (Int32.ofInt (i + 1)), .ref a, .ref t]) rfl rfl rfl ?_
    refine mi_wp_p (pc' := 202) rfl rfl rfl ?_
    refine mi_wp_p (pc' := 204) (st' := [.ref b, .int (Int32.ofInt 2), .int (Int32.ofInt (i + 1)), .ref a, .ref t]) rfl rfl rfl ?_
    refine ls_cv rfl rfl rfl rfl rfl rfl (mi_cal_s2 (np := 5) (args := [.ref t, .ref a, .int (Int32.ofInt (i + 1)), .int (Int32.ofInt 2), .ref b]) (rest := []) rfl rfl rfl (Or.inl rfl) rfl (Nat.le_of_ble_eq_true rfl) rfl rfl (Nat.le_of_ble_eq_true rfl)) (Nat.le_of_ble_eq_true rfl) (H1 _ _ A_t A_a A_b (by first | omega | (simp only [List.length_append, List.length_cons, List.length_nil]; omega))) ?_
    intro hh26 c1_ s1_ hc1 hs1 P
    obtain ⟨A_t, f⟩ := P
    replace A_a := LA_F1 A_a f (by omega)
    replace A_b := LA_F1 A_b f (by omega)
    replace fr := LF_tr1 fr f (Or.inl (by simp))
    refine mi_wp_p (pc' := 208) (st' := [.ref t]) rfl rfl rfl ?_
    refine mi_wp_p (pc' := 210) (st' := [.int (Int32.ofInt 5), .ref t]) rfl rfl rfl ?_
    refine mi_wp_p (pc' := 211) (st' := [.int (Int32.ofInt 5), .int (Int32.ofInt 5), .ref t]) rfl rfl rfl ?_
    refine mi_s_if2 (t := 219) rfl rfl rfl (by unfold mi_R; omega) (by unfold mi_R; omega) (fun hc_ => absurd (show (5 : Int) ≠ 5 from hc_) (by omega)) (fun _ => ?_)
    refine mi_s_lds (i := 28) rfl rfl rfl rfl rfl ?_
    refine mi_wp_p (pc' := 221) rfl rfl rfl ?_
    refine ls_cv rfl rfl rfl rfl rfl rfl (mi_cal_s2 (np := 2) (args := [.ref t, .retAddr 112]) (rest := []) rfl rfl rfl (Or.inl rfl) rfl (Nat.le_of_ble_eq_true rfl) rfl rfl (Nat.le_of_ble_eq_true rfl)) (Nat.le_of_ble_eq_true rfl) (lw_puts STR_28 A_t (by first | omega | (simp only [List.length_append, List.length_cons, List.length_nil]; omega)) hn) ?_
    intro hh27 c_ s_ hc hs P
    obtain rfl : c_ = 0 := by omega
    obtain rfl : s_ = 0 := by omega
    obtain ⟨A_t, f⟩ := P
    replace A_a := LA_F1 A_a f (by omega)
    replace A_b := LA_F1 A_b f (by omega)
    replace fr := LF_tr1 fr f (Or.inl (by simp))
    refine mi_wp_p (pc' := 225) (st' := [.ref t]) rfl rfl rfl ?_
    refine mi_wp_p (pc' := 226) (st' := [.ref a, .ref t]) rfl rfl rfl ?_
    refine mi_wp_p (pc' := 227) (st' := [.ref a, .ref a, .ref t]) rfl rfl rfl ?_
    refine mi_wp_p (pc' := 228) (st' := [.int (Int32.ofInt i), .ref a, .ref a, .ref t]) rfl rfl rfl ?_
    refine mi_wp_p (pc' := 229) (st' := [.int (Int32.ofInt 1), .int (Int32.ofInt i), .ref a, .ref a, .ref t]) rfl rfl rfl ?_
    refine mi_s_add rfl rfl ?_
    refine ls_ci rfl rfl rfl rfl rfl rfl (mi_cal_s2 (np := 2) (args := [.ref a, .int (Int32.ofInt (i + 1))]) (rest := [.ref a, .ref t]) rfl rfl rfl (Or.inl rfl) rfl (Nat.le_of_ble_eq_true rfl) rfl rfl (Nat.le_of_ble_eq_true rfl)) (Nat.le_of_ble_eq_true rfl) (Hb _ A_a) ?_
    intro x_ hh28 c_ s_ hc hs P
    obtain rfl : c_ = 0 := by omega
    obtain rfl : s_ = 0 := by omega
    obtain ⟨P, P2⟩ := P
    subst P2
    rw [P]
    refine mi_wp_p (pc' := 235) (st' := [.int (Int32.ofInt 5), .int (Int32.ofInt j), .ref a, .ref t]) rfl rfl rfl ?_
    refine mi_wp_p (pc' := 236) (st' := [.int (Int32.ofInt 5), .int (Int32.ofInt 5), .int (Int32.ofInt j), .ref a, .ref t]) rfl rfl rfl ?_
    refine mi_s_if2 (t := 243) rfl rfl rfl (by unfold mi_R; omega) (by unfold mi_R; omega) (fun hc_ => absurd (show (5 : Int) ≠ 5 from hc_) (by omega)) (fun _ => ?_)
    refine mi_wp_p (pc' := 240) (st' := [.int (Int32.ofInt 2), .int (Int32.ofInt j), .ref a, .ref t]) rfl rfl rfl ?_
    refine mi_wp_p (pc' := 244) rfl rfl rfl ?_
    refine mi_wp_p (pc' := 246) (st' := [.ref b, .int (Int32.ofInt 2), .int (Int32.ofInt j), .ref a, .ref t]) rfl rfl rfl ?_
    refine ls_cv rfl rfl rfl rfl rfl rfl (mi_cal_s2 (np := 5) (args := [.ref t, .ref a, .int (Int32.ofInt j), .int (Int32.ofInt 2), .ref b]) (rest := []) rfl rfl rfl (Or.inl rfl) rfl (Nat.le_of_ble_eq_true rfl) rfl rfl (Nat.le_of_ble_eq_true rfl)) (Nat.le_of_ble_eq_true rfl) (H2 _ _ A_t A_a A_b (by first | omega | (simp only [List.length_append, List.length_cons, List.length_nil]; omega))) ?_
    intro hh29 c2_ s2_ hc2 hs2 P
    obtain ⟨A_t, f⟩ := P
    replace A_a := LA_F1 A_a f (by omega)
    replace A_b := LA_F1 A_b f (by omega)
    replace fr := LF_tr1 fr f (Or.inl (by simp))
    refine mi_wp_p (pc' := 251) (st' := [.int (Int32.ofInt 1)]) rfl rfl rfl ?_
    refine mi_s_if1 (t := 260) rfl rfl rfl (by unfold mi_R; omega) (fun hc_ => absurd (show (1 : Int) = 0 from hc_) (by omega)) (fun _ => ?_)
    refine mi_wp_p (pc' := 255) (st' := [.ref t]) rfl rfl rfl ?_
    refine mi_s_lds (i := 30) rfl rfl rfl rfl rfl ?_
    refine ls_cv rfl rfl rfl rfl rfl rfl (mi_cal_s2 (np := 2) (args := [.ref t, .retAddr 120]) (rest := []) rfl rfl rfl (Or.inl rfl) rfl (Nat.le_of_ble_eq_true rfl) rfl rfl (Nat.le_of_ble_eq_true rfl)) (Nat.le_of_ble_eq_true rfl) (lw_puts STR_30 A_t (by first | omega | (simp only [List.length_append, List.length_cons, List.length_nil]; omega)) hn) ?_
    intro hh30 c_ s_ hc hs P
    obtain rfl : c_ = 0 := by omega
    obtain rfl : s_ = 0 := by omega
    obtain ⟨A_t, f⟩ := P
    replace A_a := LA_F1 A_a f (by omega)
    replace A_b := LA_F1 A_b f (by omega)
    replace fr := LF_tr1 fr f (Or.inl (by simp))
    exact ls_rv rfl rfl rfl rfl (by omega) (by omega) ⟨LT_e A_t (by rw [show brk w (tn 5 e1 e2 tr_0) = true by rw [brk_5]; simp; omega, prt_5, wrp_t]; simp [List.append_assoc]), fr⟩
  · intro (c24 : ¬ (1 < wi))
    refine mi_wp_p (pc' := 18) (st' := [.int (Int32.ofInt 5)]) rfl rfl rfl ?_
    refine mi_s_k (pc' := 20) (e := 6) rfl rfl rfl (by decide +kernel) ?_
    refine mi_s_if2 (t := 27) rfl rfl rfl (by unfold mi_R; omega) (by unfold mi_R; omega) (fun _ => ?_) (fun hc_ => absurd (show (5 : Int) ≠ 6 by omega) hc_)
    refine mi_wp_p (pc' := 29) (st' := [.int (Int32.ofInt 5)]) rfl rfl rfl ?_
    refine mi_s_k (pc' := 31) (e := 7) rfl rfl rfl (by decide +kernel) ?_
    refine mi_s_if2 (t := 43) rfl rfl rfl (by unfold mi_R; omega) (by unfold mi_R; omega) (fun _ => ?_) (fun hc_ => absurd (show (5 : Int) ≠ 7 by omega) hc_)
    refine mi_wp_p (pc' := 44) (st' := [.int (Int32.ofInt 0)]) rfl rfl rfl ?_
    refine mi_wp_p (pc' := 46) (l' := [(6, .int (Int32.ofInt 0)), (5, .int (Int32.ofInt 5)), (0, .ref t), (1, .ref a), (2, .int (Int32.ofInt i)), (3, .int (Int32.ofInt wi)), (4, .ref b)]) (st' := []) rfl rfl rfl ?_
    refine mi_wp_p (pc' := 48) (st' := [.int (Int32.ofInt 0)]) rfl rfl rfl ?_
    refine mi_s_if1 (t := 57) rfl rfl rfl (by unfold mi_R; omega) (fun _ => ?_) (fun hc_ => absurd (show (0 : Int) = 0 by omega) hc_)
    refine mi_wp_p (pc' := 59) (st' := [.int (Int32.ofInt 5)]) rfl rfl rfl ?_
    refine mi_wp_p (pc' := 60) (st' := [.int (Int32.ofInt 2), .int (Int32.ofInt 5)]) rfl rfl rfl ?_
    refine mi_s_if2 (t := 82) rfl rfl rfl (by unfold mi_R; omega) (by unfold mi_R; omega) (fun _ => ?_) (fun hc_ => absurd (show 2 ≤ (5 : Int) by omega) hc_)
    refine mi_wp_p (pc' := 84) (st' := [.int (Int32.ofInt 5)]) rfl rfl rfl ?_
    refine mi_wp_p (pc' := 85) (st' := [.int (Int32.ofInt 5), .int (Int32.ofInt 5)]) rfl rfl rfl ?_
    refine mi_s_if2 (t := 159) rfl rfl rfl (by unfold mi_R; omega) (by unfold mi_R; omega) (fun _ => ?_) (fun hc_ => absurd (show 5 ≤ (5 : Int) by omega) hc_)
    refine mi_wp_p (pc' := 161) (st' := [.int (Int32.ofInt 5)]) rfl rfl rfl ?_
    refine mi_s_k (pc' := 163) (e := 7) rfl rfl rfl (by decide +kernel) ?_
    refine mi_s_if2 (t := 186) rfl rfl rfl (by unfold mi_R; omega) (by unfold mi_R; omega) (fun _ => ?_) (fun hc_ => absurd (show (5 : Int) ≠ 7 by omega) hc_)
    refine mi_wp_p (pc' := 187) (st' := [.ref t]) rfl rfl rfl ?_
    refine mi_wp_p (pc' := 188) (st' := [.ref a, .ref t]) rfl rfl rfl ?_
    refine mi_wp_p (pc' := 189) (st' := [.int (Int32.ofInt i), .ref a, .ref t]) rfl rfl rfl ?_
    refine mi_wp_p (pc' := 190) (st' := [.int (Int32.ofInt 1), .int (Int32.ofInt i), .ref a, .ref t]) rfl rfl rfl ?_
    refine mi_s_add rfl rfl ?_
    refine mi_wp_p (pc' := 193) (st' := [.int (Int32.ofInt 5), .int (Int32.ofInt (i + 1)), .ref a, .ref t]) rfl rfl rfl ?_
    refine mi_wp_p (pc' := 194) (st' := [.int (Int32.ofInt 5), .int (Int32.ofInt 5), .int (Int32.ofInt (i + 1)), .ref a, .ref t]) rfl rfl rfl ?_
    refine mi_s_if2 (t := 201) rfl rfl rfl (by unfold mi_R; omega) (by unfold mi_R; omega) (fun hc_ => absurd (show (5 : Int) ≠ 5 from hc_) (by omega)) (fun _ => ?_)
    refine mi_wp_p (pc' := 198) (st' := [.int (Int32.ofInt 2), .int (Int32.ofInt (i + 1)), .ref a, .ref t]) rfl rfl rfl ?_
    refine mi_wp_p (pc' := 202) rfl rfl rfl ?_
    refine mi_wp_p (pc' := 204) (st' := [.ref b, .int (Int32.ofInt 2), .int (Int32.ofInt (i + 1)), .ref a, .ref t]) rfl rfl rfl ?_
    refine ls_cv rfl rfl rfl rfl rfl rfl (mi_cal_s2 (np := 5) (args := [.ref t, .ref a, .int (Int32.ofInt (i + 1)), .int (Int32.ofInt 2), .ref b]) (rest := []) rfl rfl rfl (Or.inl rfl) rfl (Nat.le_of_ble_eq_true rfl) rfl rfl (Nat.le_of_ble_eq_true rfl)) (Nat.le_of_ble_eq_true rfl) (H1 _ _ A_t A_a A_b (by first | omega | (simp only [List.length_append, List.length_cons, List.length_nil]; omega))) ?_
    intro hh31 c1_ s1_ hc1 hs1 P
    obtain ⟨A_t, f⟩ := P
    replace A_a := LA_F1 A_a f (by omega)
    replace A_b := LA_F1 A_b f (by omega)
    replace fr := LF_tr1 fr f (Or.inl (by simp))
    refine mi_wp_p (pc' := 208) (st' := [.ref t]) rfl rfl rfl ?_
    refine mi_wp_p (pc' := 210) (st' := [.int (Int32.ofInt 5), .ref t]) rfl rfl rfl ?_
    refine mi_wp_p (pc' := 211) (st' := [.int (Int32.ofInt 5), .int (Int32.ofInt 5), .ref t]) rfl rfl rfl ?_
    refine mi_s_if2 (t := 219) rfl rfl rfl (by unfold mi_R; omega) (by unfold mi_R; omega) (fun hc_ => absurd (show (5 : Int) ≠ 5 from hc_) (by omega)) (fun _ => ?_)
    refine mi_s_lds (i := 28) rfl rfl rfl rfl rfl ?_
    refine mi_wp_p (pc' := 221) rfl rfl rfl ?_
    refine ls_cv rfl rfl rfl rfl rfl rfl (mi_cal_s2 (np := 2) (args := [.ref t, .retAddr 112]) (rest := []) rfl rfl rfl (Or.inl rfl) rfl (Nat.le_of_ble_eq_true rfl) rfl rfl (Nat.le_of_ble_eq_true rfl)) (Nat.le_of_ble_eq_true rfl) (lw_puts STR_28 A_t (by first | omega | (simp only [List.length_append, List.length_cons, List.length_nil]; omega)) hn) ?_
    intro hh32 c_ s_ hc hs P
    obtain rfl : c_ = 0 := by omega
    obtain rfl : s_ = 0 := by omega
    obtain ⟨A_t, f⟩ := P
    replace A_a := LA_F1 A_a f (by omega)
    replace A_b := LA_F1 A_b f (by omega)
    replace fr := LF_tr1 fr f (Or.inl (by simp))
    refine mi_wp_p (pc' := 225) (st' := [.ref t]) rfl rfl rfl ?_
    refine mi_wp_p (pc' := 226) (st' := [.ref a, .ref t]) rfl rfl rfl ?_
    refine mi_wp_p (pc' := 227) (st' := [.ref a, .ref a, .ref t]) rfl rfl rfl ?_
    refine mi_wp_p (pc' := 228) (st' := [.int (Int32.ofInt i), .ref a, .ref a, .ref t]) rfl rfl rfl ?_
    refine mi_wp_p (pc' := 229) (st' := [.int (Int32.ofInt 1), .int (Int32.ofInt i), .ref a, .ref a, .ref t]) rfl rfl rfl ?_
    refine mi_s_add rfl rfl ?_
    refine ls_ci rfl rfl rfl rfl rfl rfl (mi_cal_s2 (np := 2) (args := [.ref a, .int (Int32.ofInt (i + 1))]) (rest := [.ref a, .ref t]) rfl rfl rfl (Or.inl rfl) rfl (Nat.le_of_ble_eq_true rfl) rfl rfl (Nat.le_of_ble_eq_true rfl)) (Nat.le_of_ble_eq_true rfl) (Hb _ A_a) ?_
    intro x_ hh33 c_ s_ hc hs P
    obtain rfl : c_ = 0 := by omega
    obtain rfl : s_ = 0 := by omega
    obtain ⟨P, P2⟩ := P
    subst P2
    rw [P]
    refine mi_wp_p (pc' := 235) (st' := [.int (Int32.ofInt 5), .int (Int32.ofInt j), .ref a, .ref t]) rfl rfl rfl ?_
    refine mi_wp_p (pc' := 236) (st' := [.int (Int32.ofInt 5), .int (Int32.ofInt 5), .int (Int32.ofInt j), .ref a, .ref t]) rfl rfl rfl ?_
    refine mi_s_if2 (t := 243) rfl rfl rfl (by unfold mi_R; omega) (by unfold mi_R; omega) (fun hc_ => absurd (show (5 : Int) ≠ 5 from hc_) (by omega)) (fun _ => ?_)
    refine mi_wp_p (pc' := 240) (st' := [.int (Int32.ofInt 2), .int (Int32.ofInt j), .ref a, .ref t]) rfl rfl rfl ?_
    refine mi_wp_p (pc' := 244) rfl rfl rfl ?_
    refine mi_wp_p (pc' := 246) (st' := [.ref b, .int (Int32.ofInt 2), .int (Int32.ofInt j), .ref a, .ref t]) rfl rfl rfl ?_
    refine ls_cv rfl rfl rfl rfl rfl rfl (mi_cal_s2 (np := 5) (args := [.ref t, .ref a, .int (Int32.ofInt j), .int (Int32.ofInt 2), .ref b]) (rest := []) rfl rfl rfl (Or.inl rfl) rfl (Nat.le_of_ble_eq_true rfl) rfl rfl (Nat.le_of_ble_eq_true rfl)) (Nat.le_of_ble_eq_true rfl) (H2 _ _ A_t A_a A_b (by first | omega | (simp only [List.length_append, List.length_cons, List.length_nil]; omega))) ?_
    intro hh34 c2_ s2_ hc2 hs2 P
    obtain ⟨A_t, f⟩ := P
    replace A_a := LA_F1 A_a f (by omega)
    replace A_b := LA_F1 A_b f (by omega)
    replace fr := LF_tr1 fr f (Or.inl (by simp))
    refine mi_wp_p (pc' := 251) (st' := [.int (Int32.ofInt 0)]) rfl rfl rfl ?_
    refine mi_s_if1 (t := 260) rfl rfl rfl (by unfold mi_R; omega) (fun _ => ?_) (fun hc_ => absurd (show (0 : Int) = 0 by omega) hc_)
    exact ls_rv rfl rfl rfl rfl (by omega) (by omega) ⟨LT_e A_t (by rw [show brk w (tn 5 e1 e2 tr_0) = false by rw [brk_5]; simp; omega, prt_5, wrp_f]; simp [List.append_assoc]), fr⟩
theorem show_6 {w : Nat} {wi j : Int} (ne : t ≠ a ∧ t ≠ b ∧ a ≠ b) (hn : n ≤ 100000) (hi : 0 < i ∧ i < 40) (hw : wi = (w : Int) ∧ w < 4) (gk : g i.toNat = 6) (w1 : wt e1) (w2 : wt e2) (H1 : SHW X (d + 4) t a b n g gl (i + 1) 1 1 e1) (Hb : ∀ h, LA h a 40 g → LCi X (d + 4) mi_M168 [(0, .ref a), (1, .int (Int32.ofInt (i + 1)))] h 0 0 (fun x h' => x = j ∧ h' = h)) (H2 : SHW X (d + 4) t a b n g gl j 0 0 e2) : SHW X (d + 5) t a b n g gl i w wi (tn 6 e1 e2 tr_0) := by
  intro h bs A_t A_a A_b hl
  obtain ⟨ne1, ne2, ne3⟩ := ne
  obtain ⟨hw1, hw2⟩ := hw
  unfold LCv LC
  have fr := LF_rf h [t]
  rw [pz_tn6] at hl ⊢
  have la := wrp_9 (w := 1) w1
  have lb := wrp_9 (w := 0) w2
  have za := pz_0 e1
  have zb := pz_0 e2
  refine mi_wp_p (pc' := 1) (st' := [.ref a]) rfl rfl rfl ?_
  refine mi_wp_p (pc' := 2) (st' := [.int (Int32.ofInt i), .ref a]) rfl rfl rfl ?_
  refine ls_ald (x := 6) A_a rfl rfl (by decide) (by omega) (by omega) gk ?_
  refine mi_wp_p (pc' := 5) (l' := [(5, .int (Int32.ofInt 6)), (0, .ref t), (1, .ref a), (2, .int (Int32.ofInt i)), (3, .int (Int32.ofInt wi)), (4, .ref b)]) (st' := []) rfl rfl rfl ?_
  refine mi_wp_p (pc' := 7) (st' := [.int (Int32.ofInt 6)]) rfl rfl rfl ?_
  refine mi_wp_p (pc' := 8) (st' := [.int (Int32.ofInt 5), .int (Int32.ofInt 6)]) rfl rfl rfl ?_
  refine mi_s_if2 (t := 16) rfl rfl rfl (by unfold mi_R; omega) (by unfold mi_R; omega) (fun _ => ?_) (fun hc_ => absurd (show (6 : Int) ≠ 5 by omega) hc_)
  refine mi_wp_p (pc' := 18) (st' := [.int (Int32.ofInt 6)]) rfl rfl rfl ?_
  refine mi_s_k (pc' := 20) (e := 6) rfl rfl rfl (by decide +kernel) ?_
  refine mi_s_if2 (t := 27) rfl rfl rfl (by unfold mi_R; omega) (by unfold mi_R; omega) (fun hc_ => absurd (show (6 : Int) ≠ 6 from hc_) (by omega)) (fun _ => ?_)
  refine mi_wp_p (pc' := 24) (st' := [.int (Int32.ofInt wi)]) rfl rfl rfl ?_
  refine mi_s_if1 (t := 39) rfl rfl rfl (by unfold mi_R; omega) ?_ ?_
  · intro (c35 : 0 < wi)
    refine mi_wp_p (pc' := 40) (st' := [.int (Int32.ofInt 1)]) rfl rfl rfl ?_
    refine mi_wp_p (pc' := 44) rfl rfl rfl ?_
    refine mi_wp_p (pc' := 46) (l' := [(6, .int (Int32.ofInt 1)), (5, .int (Int32.ofInt 6)), (0, .ref t), (1, .ref a), (2, .int (Int32.ofInt i)), (3, .int (Int32.ofInt wi)), (4, .ref b)]) (st' := []) rfl rfl rfl ?_
    refine mi_wp_p (pc' := 48) (st' := [.int (Int32.ofInt 1)]) rfl rfl rfl ?_
    refine mi_s_if1 (t := 57) rfl rfl rfl (by unfold mi_R; omega) (fun hc_ => absurd (show (1 : Int) = 0 from hc_) (by omega)) (fun _ => ?_)
    refine mi_wp_p (pc' := 52) (st' := [.ref t]) rfl rfl rfl ?_
    refine mi_s_lds (i := 19) rfl rfl rfl rfl rfl ?_
    refine ls_cv rfl rfl rfl rfl rfl rfl (mi_cal_s2 (np := 2) (args := [.ref t, .retAddr 76]) (rest := []) rfl rfl rfl (Or.inl rfl) rfl (Nat.le_of_ble_eq_true rfl) rfl rfl (Nat.le_of_ble_eq_true rfl)) (Nat.le_of_ble_eq_true rfl) (lw_puts STR_19 A_t (by first | omega | (simp only [List.length_append, List.length_cons, List.length_nil]; omega)) hn) ?_
    intro hh36 c_ s_ hc hs P
    obtain rfl : c_ = 0 := by omega
    obtain rfl : s_ = 0 := by omega
    obtain ⟨A_t, f⟩ := P
    replace A_a := LA_F1 A_a f (by omega)
    replace A_b := LA_F1 A_b f (by omega)
    replace fr := LF_tr1 fr f (Or.inl (by simp))
    refine mi_wp_p (pc' := 59) (st' := [.int (Int32.ofInt 6)]) rfl rfl rfl ?_
    refine mi_wp_p (pc' := 60) (st' := [.int (Int32.ofInt 2), .int (Int32.ofInt 6)]) rfl rfl rfl ?_
    refine mi_s_if2 (t := 82) rfl rfl rfl (by unfold mi_R; omega) (by unfold mi_R; omega) (fun _ => ?_) (fun hc_ => absurd (show 2 ≤ (6 : Int) by omega) hc_)
    refine mi_wp_p (pc' := 84) (st' := [.int (Int32.ofInt 6)]) rfl rfl rfl ?_
    refine mi_wp_p (pc' := 85) (st' := [.int (Int32.ofInt 5), .int (Int32.ofInt 6)]) rfl rfl rfl ?_
    refine mi_s_if2 (t := 159) rfl rfl rfl (by unfold mi_R; omega) (by unfold mi_R; omega) (fun _ => ?_) (fun hc_ => absurd (show 5 ≤ (6 : Int) by omega) hc_)
    refine mi_wp_p (pc' := 161) (st' := [.int (Int32.ofInt 6)]) rfl rfl rfl ?_
    refine mi_s_k (pc' := 163) (e := 7) rfl rfl rfl (by decide +kernel) ?_
    refine mi_s_if2 (t := 186) rfl rfl rfl (by unfold mi_R; omega) (by unfold mi_R; omega) (fun _ => ?_) (fun hc_ => absurd (show (6 : Int) ≠ 7 by omega) hc_)
    refine mi_wp_p (pc' := 187) (st' := [.ref t]) rfl rfl rfl ?_
    refine mi_wp_p (pc' := 188) (st' := [.ref a, .ref t]) rfl rfl rfl ?_
    refine mi_wp_p (pc' := 189) (st' := [.int (Int32.ofInt i), .ref a, .ref t]) rfl rfl rfl ?_
    refine mi_wp_p (pc' := 190) (st' := [.int (Int32.ofInt 1), .int (Int32.ofInt i), .ref a, .ref t]) rfl rfl rfl ?_
    refine mi_s_add rfl rfl ?_
    refine mi_wp_p (pc' := 193) (st' := [.int (Int32.ofInt 6), .int (Int32.ofInt (i + 1)), .ref a, .ref t]) rfl rfl rfl ?_
    refine mi_wp_p (pc' := 194) (st' := [.int (Int32.ofInt 5), .int (Int32.ofInt 6), .int (Int32.ofInt (i + 1)), .ref a, .ref t]) rfl rfl rfl ?_
    refine mi_s_if2 (t := 201) rfl rfl rfl (by unfold mi_R; omega) (by unfold mi_R; omega) (fun _ => ?_) (fun hc_ => absurd (show (6 : Int) ≠ 5 by omega) hc_)
    refine mi_wp_p (pc' := 202) (st' := [.int (Int32.ofInt 1), .int (Int32.ofInt (i + 1)), .ref a, .ref t]) rfl rfl rfl ?_
    refine mi_wp_p (pc' := 204) (st' := [.ref b, .int (Int32.ofInt 1), .int (Int32.ofInt (i + 1)), .ref a, .ref t]) rfl rfl rfl ?_
    refine ls_cv rfl rfl rfl rfl rfl rfl (mi_cal_s2 (np := 5) (args := [.ref t, .ref a, .int (Int32.ofInt (i + 1)), .int (Int32.ofInt 1), .ref b]) (rest := []) rfl rfl rfl (Or.inl rfl) rfl (Nat.le_of_ble_eq_true rfl) rfl rfl (Nat.le_of_ble_eq_true rfl)) (Nat.le_of_ble_eq_true rfl) (H1 _ _ A_t A_a A_b (by first | omega | (simp only [List.length_append, List.length_cons, List.length_nil]; omega))) ?_
    intro hh37 c1_ s1_ hc1 hs1 P
    obtain ⟨A_t, f⟩ := P
    replace A_a := LA_F1 A_a f (by omega)
    replace A_b := LA_F1 A_b f (by omega)
    replace fr := LF_tr1 fr f (Or.inl (by simp))
    refine mi_wp_p (pc' := 208) (st' := [.ref t]) rfl rfl rfl ?_
    refine mi_wp_p (pc' := 210) (st' := [.int (Int32.ofInt 6), .ref t]) rfl rfl rfl ?_
    refine mi_wp_p (pc' := 211) (st' := [.int (Int32.ofInt 5), .int (Int32.ofInt 6), .ref t]) rfl rfl rfl ?_
    refine mi_s_if2 (t := 219) rfl rfl rfl (by unfold mi_R; omega) (by unfold mi_R; omega) (fun _ => ?_) (fun hc_ => absurd (show (6 : Int) ≠ 5 by omega) hc_)
    refine mi_s_lds (i := 29) rfl rfl rfl rfl rfl ?_
    refine ls_cv rfl rfl rfl rfl rfl rfl (mi_cal_s2 (np := 2) (args := [.ref t, .retAddr 116]) (rest := []) rfl rfl rfl (Or.inl rfl) rfl (Nat.le_of_ble_eq_true rfl) rfl rfl (Nat.le_of_ble_eq_true rfl)) (Nat.le_of_ble_eq_true rfl) (lw_puts STR_29 A_t (by first | omega | (simp only [List.length_append, List.length_cons, List.length_nil]; omega)) hn) ?_
    intro hh38 c_ s_ hc hs P
    obtain rfl : c_ = 0 := by omega
    obtain rfl : s_ = 0 := by omega
    obtain ⟨A_t, f⟩ := P
    replace A_a := LA_F1 A_a f (by omega)
    replace A_b := LA_F1 A_b f (by omega)
    replace fr := LF_tr1 fr f (Or.inl (by simp))
    refine mi_wp_p (pc' := 225) (st' := [.ref t]) rfl rfl rfl ?_
    refine mi_wp_p (pc' := 226) (st' := [.ref a, .ref t]) rfl rfl rfl ?_
    refine mi_wp_p (pc' := 227) (st' := [.ref a, .ref a, .ref t]) rfl rfl rfl ?_
    refine mi_wp_p (pc' := 228) (st' := [.int (Int32.ofInt i), .ref a, .ref a, .ref t]) rfl rfl rfl ?_
    refine mi_wp_p (pc' := 229) (st' := [.int (Int32.ofInt 1), .int (Int32.ofInt i), .ref a, .ref a, .ref t]) rfl rfl rfl ?_
    refine mi_s_add rfl rfl ?_
    refine ls_ci rfl rfl rfl rfl rfl rfl (mi_cal_s2 (np := 2) (args := [.ref a, .int (Int32.ofInt (i + 1))]) (rest := [.ref a, .ref t]) rfl rfl rfl (Or.inl rfl) rfl (Nat.le_of_ble_eq_true rfl) rfl rfl (Nat.le_of_ble_eq_true rfl)) (Nat.le_of_ble_eq_true rfl) (Hb _ A_a) ?_
    intro x_ hh39 c_ s_ hc hs P
    obtain rfl : c_ = 0 := by omega
    obtain rfl : s_ = 0 := by omega
    obtain ⟨P, P2⟩ := P
    subst P2
    rw [P]
    refine mi_wp_p (pc' := 235) (st' := [.int (Int32.ofInt 6), .int (Int32.ofInt j), .ref a, .ref t]) rfl rfl rfl ?_
    refine mi_wp_p (pc' := 236) (st' := [.int (Int32.ofInt 5), .int (Int32.ofInt 6), .int (Int32.ofInt j), .ref a, .ref t]) rfl rfl rfl ?_
    refine mi_s_if2 (t := 243) rfl rfl rfl (by unfold mi_R; omega) (by unfold mi_R; omega) (fun _ => ?_) (fun hc_ => absurd (show (6 : Int) ≠ 5 by omega) hc_)
    refine mi_wp_p (pc' := 244) (st' := [.int (Int32.ofInt 0), .int (Int32.ofInt j), .ref a, .ref t]) rfl rfl rfl ?_
    refine mi_wp_p (pc' := 246) (st' := [.ref b, .int (Int32.ofInt 0), .int (Int32.ofInt j), .ref a, .ref t]) rfl rfl rfl ?_
    refine ls_cv rfl rfl rfl rfl rfl rfl (mi_cal_s2 (np := 5) (args := [.ref t, .ref a, .int (Int32.ofInt j), .int (Int32.ofInt 0), .ref b]) (rest := []) rfl rfl rfl (Or.inl rfl) rfl (Nat.le_of_ble_eq_true rfl) rfl rfl (Nat.le_of_ble_eq_true rfl)) (Nat.le_of_ble_eq_true rfl) (H2 _ _ A_t A_a A_b (by first | omega | (simp only [List.length_append, List.length_cons, List.length_nil]; omega))) ?_
    intro hh40 c2_ s2_ hc2 hs2 P
    obtain ⟨A_t, f⟩ := P
    replace A_a := LA_F1 A_a f (by omega)
    replace A_b := LA_F1 A_b f (by omega)
    replace fr := LF_tr1 fr f (Or.inl (by simp))
    refine mi_wp_p (pc' := 251) (st' := [.int (Int32.ofInt 1)]) rfl rfl rfl ?_
    refine mi_s_if1 (t := 260) rfl rfl rfl (by unfold mi_R; omega) (fun hc_ => absurd (show (1 : Int) = 0 from hc_) (by omega)) (fun _ => ?_)
    refine mi_wp_p (pc' := 255) (st' := [.ref t]) rfl rfl rfl ?_
    refine mi_s_lds (i := 30) rfl rfl rfl rfl rfl ?_
    refine ls_cv rfl rfl rfl rfl rfl rfl (mi_cal_s2 (np := 2) (args := [.ref t, .retAddr 120]) (rest := []) rfl rfl rfl (Or.inl rfl) rfl (Nat.le_of_ble_eq_true rfl) rfl rfl (Nat.le_of_ble_eq_true rfl)) (Nat.le_of_ble_eq_true rfl) (lw_puts STR_30 A_t (by first | omega | (simp only [List.length_append, List.length_cons, List.length_nil]; omega)) hn) ?_
    intro hh41 c_ s_ hc hs P
    obtain rfl : c_ = 0 := by omega
    obtain rfl : s_ = 0 := by omega
    obtain ⟨A_t, f⟩ := P
    replace A_a := LA_F1 A_a f (by omega)
    replace A_b := LA_F1 A_b f (by omega)
    replace fr := LF_tr1 fr f (Or.inl (by simp))
    exact ls_rv rfl rfl rfl rfl (by omega) (by omega) ⟨LT_e A_t (by rw [show brk w (tn 6 e1 e2 tr_0) = true by rw [brk_6]; simp; omega, prt_6, wrp_t]; simp [List.append_assoc]), fr⟩
  · intro (c35 : ¬ (0 < wi))
    refine mi_wp_p (pc' := 29) (st' := [.int (Int32.ofInt 6)]) rfl rfl rfl ?_
    refine mi_s_k (pc' := 31) (e := 7) rfl rfl rfl (by decide +kernel) ?_
    refine mi_s_if2 (t := 43) rfl rfl rfl (by unfold mi_R; omega) (by unfold mi_R; omega) (fun _ => ?_) (fun hc_ => absurd (show (6 : Int) ≠ 7 by omega) hc_)
    refine mi_wp_p (pc' := 44) (st' := [.int (Int32.ofInt 0)]) rfl rfl rfl ?_
    refine mi_wp_p (pc' := 46) (l' := [(6, .int (Int32.ofInt 0)), (5, .int (Int32.ofInt 6)), (0, .ref t), (1, .ref a), (2, .int (Int32.ofInt i)), (3, .int (Int32.ofInt wi)), (4, .ref b)]) (st' := []) rfl rfl rfl ?_
    refine mi_wp_p (pc' := 48) (st' := [.int (Int32.ofInt 0)]) rfl rfl rfl ?_
    refine mi_s_if1 (t := 57) rfl rfl rfl (by unfold mi_R; omega) (fun _ => ?_) (fun hc_ => absurd (show (0 : Int) = 0 by omega) hc_)
    refine mi_wp_p (pc' := 59) (st' := [.int (Int32.ofInt 6)]) rfl rfl rfl ?_
    refine mi_wp_p (pc' := 60) (st' := [.int (Int32.ofInt 2), .int (Int32.ofInt 6)]) rfl rfl rfl ?_
    refine mi_s_if2 (t := 82) rfl rfl rfl (by unfold mi_R; omega) (by unfold mi_R; omega) (fun _ => ?_) (fun hc_ => absurd (show 2 ≤ (6 : Int) by omega) hc_)
    refine mi_wp_p (pc' := 84) (st' := [.int (Int32.ofInt 6)]) rfl rfl rfl ?_
    refine mi_wp_p (pc' := 85) (st' := [.int (Int32.ofInt 5), .int (Int32.ofInt 6)]) rfl rfl rfl ?_
    refine mi_s_if2 (t := 159) rfl rfl rfl (by unfold mi_R; omega) (by unfold mi_R; omega) (fun _ => ?_) (fun hc_ => absurd (show 5 ≤ (6 : Int) by omega) hc_)
    refine mi_wp_p (pc' := 161) (st' := [.int (Int32.ofInt 6)]) rfl rfl rfl ?_
    refine mi_s_k (pc' := 163) (e := 7) rfl rfl rfl (by decide +kernel) ?_
    refine mi_s_if2 (t := 186) rfl rfl rfl (by unfold mi_R; omega) (by unfold mi_R; omega) (fun _ => ?_) (fun hc_ => absurd (show (6 : Int) ≠ 7 by omega) hc_)
    refine mi_wp_p (pc' := 187) (st' := [.ref t]) rfl rfl rfl ?_
    refine mi_wp_p (pc' := 188) (st' := [.ref a, .ref t]) rfl rfl rfl ?_
    refine mi_wp_p (pc' := 189) (st' := [.int (Int32.ofInt i), .ref a, .ref t]) rfl rfl rfl ?_
    refine mi_wp_p (pc' := 190) (st' := [.int (Int32.ofInt 1), .int (Int32.ofInt i), .ref a, .ref t]) rfl rfl rfl ?_
    refine mi_s_add rfl rfl ?_
    refine mi_wp_p (pc' := 193) (st' := [.int (Int32.ofInt 6), .int (Int32.ofInt (i + 1)), .ref a, .ref t]) rfl rfl rfl ?_
    refine mi_wp_p (pc' := 194) (st' := [.int (Int32.ofInt 5), .int (Int32.ofInt 6), .int (Int32.ofInt (i + 1)), .ref a, .ref t]) rfl rfl rfl ?_
    refine mi_s_if2 (t := 201) rfl rfl rfl (by unfold mi_R; omega) (by unfold mi_R; omega) (fun _ => ?_) (fun hc_ => absurd (show (6 : Int) ≠ 5 by omega) hc_)
    refine mi_wp_p (pc' := 202) (st' := [.int (Int32.ofInt 1), .int (Int32.ofInt (i + 1)), .ref a, .ref t]) rfl rfl rfl ?_
    refine mi_wp_p (pc' := 204) (st' := [.ref b, .int (Int32.ofInt 1), .int (Int32.ofInt (i + 1)), .ref a, .ref t]) rfl rfl rfl ?_
    refine ls_cv rfl rfl rfl rfl rfl rfl (mi_cal_s2 (np := 5) (args := [.ref t, .ref a, .int (Int32.ofInt (i + 1)), .int (Int32.ofInt 1), .ref b]) (rest := []) rfl rfl rfl (Or.inl rfl) rfl (Nat.le_of_ble_eq_true rfl) rfl rfl (Nat.le_of_ble_eq_true rfl)) (Nat.le_of_ble_eq_true rfl) (H1 _ _ A_t A_a A_b (by first | omega | (simp only [List.length_append, List.length_cons, List.length_nil]; omega))) ?_
    intro hh42 c1_ s1_ hc1 hs1 P
    obtain ⟨A_t, f⟩ := P
    replace A_a := LA_F1 A_a f (by omega)
    replace A_b := LA_F1 A_b f (by omega)
    replace fr := LF_tr1 fr f (Or.inl (by simp))
    refine mi_wp_p (pc' := 208) (st' := [.ref t]) rfl rfl rfl ?_
    refine mi_wp_p (pc' := 210) (st' := [.int (Int32.ofInt 6), .ref t]) rfl rfl rfl ?_
    refine mi_wp_p (pc' := 211) (st' := [.int (Int32.ofInt 5), .int (Int32.ofInt 6), .ref t]) rfl rfl rfl ?_
    refine mi_s_if2 (t := 219) rfl rfl rfl (by unfold mi_R; omega) (by unfold mi_R; omega) (fun _ => ?_) (fun hc_ => absurd (show (6 : Int) ≠ 5 by omega) hc_)
    refine mi_s_lds (i := 29) rfl rfl rfl rfl rfl ?_
    refine ls_cv rfl rfl rfl rfl rfl rfl (mi_cal_s2 (np := 2) (args := [.ref t, .retAddr 116]) (rest := []) rfl rfl rfl (Or.inl rfl) rfl (Nat.le_of_ble_eq_true rfl) rfl rfl (Nat.le_of_ble_eq_true rfl)) (Nat.le_of_ble_eq_true rfl) (lw_puts STR_29 A_t (by first | omega | (simp only [List.length_append, List.length_cons, List.length_nil]; omega)) hn) ?_
    intro hh43 c_ s_ hc hs P
    obtain rfl : c_ = 0 := by omega
    obtain rfl : s_ = 0 := by omega
    obtain ⟨A_t, f⟩ := P
    replace A_a := LA_F1 A_a f (by omega)
    replace A_b := LA_F1 A_b f (by omega)
    replace fr := LF_tr1 fr f (Or.inl (by simp))
    refine mi_wp_p (pc' := 225) (st' := [.ref t]) rfl rfl rfl ?_
    refine mi_wp_p (pc' := 226) (st' := [.ref a, .ref t]) rfl rfl rfl ?_
    refine mi_wp_p (pc' := 227) (st' := [.ref a, .ref a, .ref t]) rfl rfl rfl ?_
    refine mi_wp_p (pc' := 228) (st' := [.int (Int32.ofInt i), .ref a, .ref a, .ref t]) rfl rfl rfl ?_
    refine mi_wp_p (pc' := 229) (st' := [.int (Int32.ofInt 1), .int (Int32.ofInt i), .ref a, .ref a, .ref t]) rfl rfl rfl ?_
    refine mi_s_add rfl rfl ?_
    refine ls_ci rfl rfl rfl rfl rfl rfl (mi_cal_s2 (np := 2) (args := [.ref a, .int (Int32.ofInt (i + 1))]) (rest := [.ref a, .ref t]) rfl rfl rfl (Or.inl rfl) rfl (Nat.le_of_ble_eq_true rfl) rfl rfl (Nat.le_of_ble_eq_true rfl)) (Nat.le_of_ble_eq_true rfl) (Hb _ A_a) ?_
    intro x_ hh44 c_ s_ hc hs P
    obtain rfl : c_ = 0 := by omega
    obtain rfl : s_ = 0 := by omega
    obtain ⟨P, P2⟩ := P
    subst P2
    rw [P]
    refine mi_wp_p (pc' := 235) (st' := [.int (Int32.ofInt 6), .int (Int32.ofInt j), .ref a, .ref t]) rfl rfl rfl ?_
    refine mi_wp_p (pc' := 236) (st' := [.int (Int32.ofInt 5), .int (Int32.ofInt 6), .int (Int32.ofInt j), .ref a, .ref t]) rfl rfl rfl ?_
    refine mi_s_if2 (t := 243) rfl rfl rfl (by unfold mi_R; omega) (by unfold mi_R; omega) (fun _ => ?_) (fun hc_ => absurd (show (6 : Int) ≠ 5 by omega) hc_)
    refine mi_wp_p (pc' := 244) (st' := [.int (Int32.ofInt 0), .int (Int32.ofInt j), .ref a, .ref t]) rfl rfl rfl ?_
    refine mi_wp_p (pc' := 246) (st' := [.ref b, .int (Int32.ofInt 0), .int (Int32.ofInt j), .ref a, .ref t]) rfl rfl rfl ?_
    refine ls_cv rfl rfl rfl rfl rfl rfl (mi_cal_s2 (np := 5) (args := [.ref t, .ref a, .int (Int32.ofInt j), .int (Int32.ofInt 0), .ref b]) (rest := []) rfl rfl rfl (Or.inl rfl) rfl (Nat.le_of_ble_eq_true rfl) rfl rfl (Nat.le_of_ble_eq_true rfl)) (Nat.le_of_ble_eq_true rfl) (H2 _ _ A_t A_a A_b (by first | omega | (simp only [List.length_append, List.length_cons, List.length_nil]; omega))) ?_
    intro hh45 c2_ s2_ hc2 hs2 P
    obtain ⟨A_t, f⟩ := P
    replace A_a := LA_F1 A_a f (by omega)
    replace A_b := LA_F1 A_b f (by omega)
    replace fr := LF_tr1 fr f (Or.inl (by simp))
    refine mi_wp_p (pc' := 251) (st' := [.int (Int32.ofInt 0)]) rfl rfl rfl ?_
    refine mi_s_if1 (t := 260) rfl rfl rfl (by unfold mi_R; omega) (fun _ => ?_) (fun hc_ => absurd (show (0 : Int) = 0 by omega) hc_)
    exact ls_rv rfl rfl rfl rfl (by omega) (by omega) ⟨LT_e A_t (by rw [show brk w (tn 6 e1 e2 tr_0) = false by rw [brk_6]; simp; omega, prt_6, wrp_f]; simp [List.append_assoc]), fr⟩
theorem show_9 {w : Nat} {wi j : Int} (ne : t ≠ a ∧ t ≠ b ∧ a ≠ b) (hn : n ≤ 100000) (hi : 0 < i ∧ i < 40) (hw : wi = (w : Int) ∧ w < 4) (gk : g i.toNat = 7) (w1 : wt e1) (H1 : SHW X (d + 4) t a b n g gl (i + 1) 3 3 e1) : SHW X (d + 5) t a b n g gl i w wi (tn 9 e1 tr_0 tr_0) := by
  intro h bs A_t A_a A_b hl
  obtain ⟨ne1, ne2, ne3⟩ := ne
  obtain ⟨hw1, hw2⟩ := hw
  unfold LCv LC
  have fr := LF_rf h [t]
  rw [pz_tn9] at hl ⊢
  have la := wrp_9 (w := 3) w1
  have za := pz_0 e1
  refine mi_wp_p (pc' := 1) (st' := [.ref a]) rfl rfl rfl ?_
  refine mi_wp_p (pc' := 2) (st' := [.int (Int32.ofInt i), .ref a]) rfl rfl rfl ?_
  refine ls_ald (x := 7) A_a rfl rfl (by decide) (by omega) (by omega) gk ?_
  refine mi_wp_p (pc' := 5) (l' := [(5, .int (Int32.ofInt 7)), (0, .ref t), (1, .ref a), (2, .int (Int32.ofInt i)), (3, .int (Int32.ofInt wi)), (4, .ref b)]) (st' := []) rfl rfl rfl ?_
  refine mi_wp_p (pc' := 7) (st' := [.int (Int32.ofInt 7)]) rfl rfl rfl ?_
  refine mi_wp_p (pc' := 8) (st' := [.int (Int32.ofInt 5), .int (Int32.ofInt 7)]) rfl rfl rfl ?_
  refine mi_s_if2 (t := 16) rfl rfl rfl (by unfold mi_R; omega) (by unfold mi_R; omega) (fun _ => ?_) (fun hc_ => absurd (show (7 : Int) ≠ 5 by omega) hc_)
  refine mi_wp_p (pc' := 18) (st' := [.int (Int32.ofInt 7)]) rfl rfl rfl ?_
  refine mi_s_k (pc' := 20) (e := 6) rfl rfl rfl (by decide +kernel) ?_
  refine mi_s_if2 (t := 27) rfl rfl rfl (by unfold mi_R; omega) (by unfold mi_R; omega) (fun _ => ?_) (fun hc_ => absurd (show (7 : Int) ≠ 6 by omega) hc_)
  refine mi_wp_p (pc' := 29) (st' := [.int (Int32.ofInt 7)]) rfl rfl rfl ?_
  refine mi_s_k (pc' := 31) (e := 7) rfl rfl rfl (by decide +kernel) ?_
  refine mi_s_if2 (t := 43) rfl rfl rfl (by unfold mi_R; omega) (by unfold mi_R; omega) (fun hc_ => absurd (show (7 : Int) ≠ 7 from hc_) (by omega)) (fun _ => ?_)
  refine mi_wp_p (pc' := 35) (st' := [.int (Int32.ofInt wi)]) rfl rfl rfl ?_
  refine mi_wp_p (pc' := 36) (st' := [.int (Int32.ofInt 3), .int (Int32.ofInt wi)]) rfl rfl rfl ?_
  refine mi_s_if2 (t := 43) rfl rfl rfl (by unfold mi_R; omega) (by unfold mi_R; omega) ?_ ?_
  · intro (c46 : wi ≠ 3)
    refine mi_wp_p (pc' := 44) (st' := [.int (Int32.ofInt 0)]) rfl rfl rfl ?_
    refine mi_wp_p (pc' := 46) (l' := [(6, .int (Int32.ofInt 0)), (5, .int (Int32.ofInt 7)), (0, .ref t), (1, .ref a), (2, .int (Int32.ofInt i)), (3, .int (Int32.ofInt wi)), (4, .ref b)]) (st' := []) rfl rfl rfl ?_
    refine mi_wp_p (pc' := 48) (st' := [.int (Int32.ofInt 0)]) rfl rfl rfl ?_
    refine mi_s_if1 (t := 57) rfl rfl rfl (by unfold mi_R; omega) (fun _ => ?_) (fun hc_ => absurd (show (0 : Int) = 0 by omega) hc_)
    refine mi_wp_p (pc' := 59) (st' := [.int (Int32.ofInt 7)]) rfl rfl rfl ?_
    refine mi_wp_p (pc' := 60) (st' := [.int (Int32.ofInt 2), .int (Int32.ofInt 7)]) rfl rfl rfl ?_
    refine mi_s_if2 (t := 82) rfl rfl rfl (by unfold mi_R; omega) (by unfold mi_R; omega) (fun _ => ?_) (fun hc_ => absurd (show 2 ≤ (7 : Int) by omega) hc_)
    refine mi_wp_p (pc' := 84) (st' := [.int (Int32.ofInt 7)]) rfl rfl rfl ?_
    refine mi_wp_p (pc' := 85) (st' := [.int (Int32.ofInt 5), .int (Int32.ofInt 7)]) rfl rfl rfl ?_
    refine mi_s_if2 (t := 159) rfl rfl rfl (by unfold mi_R; omega) (by unfold mi_R; omega) (fun _ => ?_) (fun hc_ => absurd (show 5 ≤ (7 : Int) by omega) hc_)
    refine mi_wp_p (pc' := 161) (st' := [.int (Int32.ofInt 7)]) rfl rfl rfl ?_
    refine mi_s_k (pc' := 163) (e := 7) rfl rfl rfl (by decide +kernel) ?_
    refine mi_s_if2 (t := 186) rfl rfl rfl (by unfold mi_R; omega) (by unfold mi_R; omega) (fun hc_ => absurd (show (7 : Int) ≠ 7 from hc_) (by omega)) (fun _ => ?_)
    refine mi_wp_p (pc' := 167) (st' := [.ref t]) rfl rfl rfl ?_
    refine mi_s_lds (i := 27) rfl rfl rfl rfl rfl ?_
    refine ls_cv rfl rfl rfl rfl rfl rfl (mi_cal_s2 (np := 2) (args := [.ref t, .retAddr 108]) (rest := []) rfl rfl rfl (Or.inl rfl) rfl (Nat.le_of_ble_eq_true rfl) rfl rfl (Nat.le_of_ble_eq_true rfl)) (Nat.le_of_ble_eq_true rfl) (lw_puts STR_27 A_t (by first | omega | (simp only [List.length_append, List.length_cons, List.length_nil]; omega)) hn) ?_
    intro hh47 c_ s_ hc hs P
    obtain rfl : c_ = 0 := by omega
    obtain rfl : s_ = 0 := by omega
    obtain ⟨A_t, f⟩ := P
    replace A_a := LA_F1 A_a f (by omega)
    replace A_b := LA_F1 A_b f (by omega)
    replace fr := LF_tr1 fr f (Or.inl (by simp))
    refine mi_wp_p (pc' := 173) (st' := [.ref t]) rfl rfl rfl ?_
    refine mi_wp_p (pc' := 174) (st' := [.ref a, .ref t]) rfl rfl rfl ?_
    refine mi_wp_p (pc' := 175) (st' := [.int (Int32.ofInt i), .ref a, .ref t]) rfl rfl rfl ?_
    refine mi_wp_p (pc' := 176) (st' := [.int (Int32.ofInt 1), .int (Int32.ofInt i), .ref a, .ref t]) rfl rfl rfl ?_
    refine mi_s_add rfl rfl ?_
    refine mi_wp_p (pc' := 178) (st' := [.int (Int32.ofInt 3), .int (Int32.ofInt (i + 1)), .ref a, .ref t]) rfl rfl rfl ?_
    refine mi_wp_p (pc' := 180) (st' := [.ref b, .int (Int32.ofInt 3), .int (Int32.ofInt (i + 1)), .ref a, .ref t]) rfl rfl rfl ?_
    refine ls_cv rfl rfl rfl rfl rfl rfl (mi_cal_s2 (np := 5) (args := [.ref t, .ref a, .int (Int32.ofInt (i + 1)), .int (Int32.ofInt 3), .ref b]) (rest := []) rfl rfl rfl (Or.inl rfl) rfl (Nat.le_of_ble_eq_true rfl) rfl rfl (Nat.le_of_ble_eq_true rfl)) (Nat.le_of_ble_eq_true rfl) (H1 _ _ A_t A_a A_b (by first | omega | (simp only [List.length_append, List.length_cons, List.length_nil]; omega))) ?_
    intro hh48 c1_ s1_ hc1 hs1 P
    obtain ⟨A_t, f⟩ := P
    replace A_a := LA_F1 A_a f (by omega)
    replace A_b := LA_F1 A_b f (by omega)
    replace fr := LF_tr1 fr f (Or.inl (by simp))
    refine mi_wp_p (pc' := 249) rfl rfl rfl ?_
    refine mi_wp_p (pc' := 251) (st' := [.int (Int32.ofInt 0)]) rfl rfl rfl ?_
    refine mi_s_if1 (t := 260) rfl rfl rfl (by unfold mi_R; omega) (fun _ => ?_) (fun hc_ => absurd (show (0 : Int) = 0 by omega) hc_)
    exact ls_rv rfl rfl rfl rfl (by omega) (by omega) ⟨LT_e A_t (by rw [show brk w (tn 9 e1 tr_0 tr_0) = false by rw [brk_9]; simp; omega, prt_9, wrp_f]; simp [List.append_assoc]), fr⟩
  · intro (c46 : ¬ (wi ≠ 3))
    refine mi_wp_p (pc' := 40) (st' := [.int (Int32.ofInt 1)]) rfl rfl rfl ?_
    refine mi_wp_p (pc' := 44) rfl rfl rfl ?_
    refine mi_wp_p (pc' := 46) (l' := [(6, .int (Int32.ofInt 1)), (5, .int (Int32.ofInt 7)), (0, .ref t), (1, .ref a), (2, .int (Int32.ofInt i)), (3, .int (Int32.ofInt wi)), (4, .ref b)]) (st' := []) rfl rfl rfl ?_
    refine mi_wp_p (pc' := 48) (st' := [.int (Int32.ofInt 1)]) rfl rfl rfl ?_
    refine mi_s_if1 (t := 57) rfl rfl rfl (by unfold mi_R; omega) (fun hc_ => absurd (show (1 : Int) = 0 from hc_) (by omega)) (fun _ => ?_)
    refine mi_wp_p (pc' := 52) (st' := [.ref t]) rfl rfl rfl ?_
    refine mi_s_lds (i := 19) rfl rfl rfl rfl rfl ?_
    refine ls_cv rfl rfl rfl rfl rfl rfl (mi_cal_s2 (np := 2) (args := [.ref t, .retAddr 76]) (rest := []) rfl rfl rfl (Or.inl rfl) rfl (Nat.le_of_ble_eq_true rfl) rfl rfl (Nat.le_of_ble_eq_true rfl)) (Nat.le_of_ble_eq_true rfl) (lw_puts STR_19 A_t (by first | omega | (simp only [List.length_append, List.length_cons, List.length_nil]; omega)) hn) ?_
    intro hh49 c_ s_ hc hs P
    obtain rfl : c_ = 0 := by omega
    obtain rfl : s_ = 0 := by omega
    obtain ⟨A_t, f⟩ := P
    replace A_a := LA_F1 A_a f (by omega)
    replace A_b := LA_F1 A_b f (by omega)
    replace fr := LF_tr1 fr f (Or.inl (by simp))
    refine mi_wp_p (pc' := 59) (st' := [.int (Int32.ofInt 7)]) rfl rfl rfl ?_
    refine mi_wp_p (pc' := 60) (st' := [.int (Int32.ofInt 2), .int (Int32.ofInt 7)]) rfl rfl rfl ?_
    refine mi_s_if2 (t := 82) rfl rfl rfl (by unfold mi_R; omega) (by unfold mi_R; omega) (fun _ => ?_) (fun hc_ => absurd (show 2 ≤ (7 : Int) by omega) hc_)
    refine mi_wp_p (pc' := 84) (st' := [.int (Int32.ofInt 7)]) rfl rfl rfl ?_
    refine mi_wp_p (pc' := 85) (st' := [.int (Int32.ofInt 5), .int (Int32.ofInt 7)]) rfl rfl rfl ?_
    refine mi_s_if2 (t := 159) rfl rfl rfl (by unfold mi_R; omega) (by unfold mi_R; omega) (fun _ => ?_) (fun hc_ => absurd (show 5 ≤ (7 : Int) by omega) hc_)
    refine mi_wp_p (pc' := 161) (st' := [.int (Int32.ofInt 7)]) rfl rfl rfl ?_
    refine mi_s_k (pc' := 163) (e := 7) rfl rfl rfl (by decide +kernel) ?_
    refine mi_s_if2 (t := 186) rfl rfl rfl (by unfold mi_R; omega) (by unfold mi_R; omega) (fun hc_ => absurd (show (7 : Int) ≠ 7 from hc_) (by omega)) (fun _ => ?_)
    refine mi_wp_p (pc' := 167) (st' := [.ref t]) rfl rfl rfl ?_
    refine mi_s_lds (i := 27) rfl rfl rfl rfl rfl ?_
    refine ls_cv rfl rfl rfl rfl rfl rfl (mi_cal_s2 (np := 2) (args := [.ref t, .retAddr 108]) (rest := []) rfl rfl rfl (Or.inl rfl) rfl (Nat.le_of_ble_eq_true rfl) rfl rfl (Nat.le_of_ble_eq_true rfl)) (Nat.le_of_ble_eq_true rfl) (lw_puts STR_27 A_t (by first | omega | (simp only [List.length_append, List.length_cons, List.length_nil]; omega)) hn) ?_
    intro hh50 c_ s_ hc hs P
    obtain rfl : c_ = 0 := by omega
    obtain rfl : s_ = 0 := by omega
    obtain ⟨A_t, f⟩ := P
    replace A_a := LA_F1 A_a f (by omega)
    replace A_b := LA_F1 A_b f (by omega)
    replace fr := LF_tr1 fr f (Or.inl (by simp))
    refine mi_wp_p (pc' := 173) (st' := [.ref t]) rfl rfl rfl ?_
    refine mi_wp_p (pc' := 174) (st' := [.ref a, .ref t]) rfl rfl rfl ?_
    refine mi_wp_p (pc' := 175) (st' := [.int (Int32.ofInt i), .ref a, .ref t]) rfl rfl rfl ?_
    refine mi_wp_p (pc' := 176) (st' := [.int (Int32.ofInt 1), .int (Int32.ofInt i), .ref a, .ref t]) rfl rfl rfl ?_
    refine mi_s_add rfl rfl ?_
    refine mi_wp_p (pc' := 178) (st' := [.int (Int32.ofInt 3), .int (Int32.ofInt (i + 1)), .ref a, .ref t]) rfl rfl rfl ?_
    refine mi_wp_p (pc' := 180) (st' := [.ref b, .int (Int32.ofInt 3), .int (Int32.ofInt (i + 1)), .ref a, .ref t]) rfl rfl rfl ?_
    refine ls_cv rfl rfl rfl rfl rfl rfl (mi_cal_s2 (np := 5) (args := [.ref t, .ref a, .int (Int32.ofInt (i + 1)), .int (Int32.ofInt 3), .ref b]) (rest := []) rfl rfl rfl (Or.inl rfl) rfl (Nat.le_of_ble_eq_true rfl) rfl rfl (Nat.le_of_ble_eq_true rfl)) (Nat.le_of_ble_eq_true rfl) (H1 _ _ A_t A_a A_b (by first | omega | (simp only [List.length_append, List.length_cons, List.length_nil]; omega))) ?_
    intro hh51 c1_ s1_ hc1 hs1 P
    obtain ⟨A_t, f⟩ := P
    replace A_a := LA_F1 A_a f (by omega)
    replace A_b := LA_F1 A_b f (by omega)
    replace fr := LF_tr1 fr f (Or.inl (by simp))
    refine mi_wp_p (pc' := 249) rfl rfl rfl ?_
    refine mi_wp_p (pc' := 251) (st' := [.int (Int32.ofInt 1)]) rfl rfl rfl ?_
    refine mi_s_if1 (t := 260) rfl rfl rfl (by unfold mi_R; omega) (fun hc_ => absurd (show (1 : Int) = 0 from hc_) (by omega)) (fun _ => ?_)
    refine mi_wp_p (pc' := 255) (st' := [.ref t]) rfl rfl rfl ?_
    refine mi_s_lds (i := 30) rfl rfl rfl rfl rfl ?_
    refine ls_cv rfl rfl rfl rfl rfl rfl (mi_cal_s2 (np := 2) (args := [.ref t, .retAddr 120]) (rest := []) rfl rfl rfl (Or.inl rfl) rfl (Nat.le_of_ble_eq_true rfl) rfl rfl (Nat.le_of_ble_eq_true rfl)) (Nat.le_of_ble_eq_true rfl) (lw_puts STR_30 A_t (by first | omega | (simp only [List.length_append, List.length_cons, List.length_nil]; omega)) hn) ?_
    intro hh52 c_ s_ hc hs P
    obtain rfl : c_ = 0 := by omega
    obtain rfl : s_ = 0 := by omega
    obtain ⟨A_t, f⟩ := P
    replace A_a := LA_F1 A_a f (by omega)
    replace A_b := LA_F1 A_b f (by omega)
    replace fr := LF_tr1 fr f (Or.inl (by simp))
    exact ls_rv rfl rfl rfl rfl (by omega) (by omega) ⟨LT_e A_t (by rw [show brk w (tn 9 e1 tr_0 tr_0) = true by rw [brk_9]; simp; omega, prt_9, wrp_t]; simp [List.append_assoc]), fr⟩
theorem lw_show : ∀ (m : Nat) (e : tr), hg e ≤ m → wt e → (∀ v, vin v e → v < 3) → ∀ (d t a b n : Nat) (g gl : Nat → Int) (i : Int) (w : Nat) (wi : Int), t ≠ a ∧ t ≠ b ∧ a ≠ b → n ≤ 100000 → 0 < i → i + pz e ≤ 40 → wi = (w : Int) ∧ w < 4 → RX g i.toNat (kds e) → gl 2 = 2 ∧ gl 3 = 0 ∧ gl 4 = 1 → SHW X (d + m + 5) t a b n g gl i w wi e := by
  intro m
  have vars : ∀ (v : Nat), v < 3 → ∀ (d t a b n : Nat) (g gl : Nat → Int) (i : Int) (w : Nat) (wi : Int), t ≠ a ∧ t ≠ b ∧ a ≠ b → n ≤ 100000 → 0 < i → i + pz (.var v) ≤ 40 → wi = (w : Int) ∧ w < 4 → RX g i.toNat (kds (.var v)) → gl 2 = 2 ∧ gl 3 = 0 ∧ gl 4 = 1 → SHW X (d + 5) t a b n g gl i w wi (.var v) := by
    intro v hv d t a b n g gl i w wi ne hn hi hi2 hw R hg
    have e1 : pz (.var v) = 1 := rfl
    have r1 := (RX_c R).1
    obtain rfl | rfl | rfl : v = 0 ∨ v = 1 ∨ v = 2 := by omega
    · exact show_v0 (j := 0) ne hn (by omega) hw r1 hg.2.1
    · exact show_v1 (j := 0) ne hn (by omega) hw r1 hg.2.2
    · exact show_v2 (j := 0) ne hn (by omega) hw r1 hg.1
  induction m with
  | zero =>
    intro e hm hw0 hv d t a b n g gl i w wi ne hn hi hi2 hw R hg
    rcases wt_c hw0 with ⟨v, rfl⟩ | (rfl | rfl) | ⟨a, b, wa, wb, rfl | rfl⟩ | ⟨a, wa, rfl⟩
    · exact vars v (hv v rfl) d t a b n g gl i w wi ne hn hi hi2 hw R hg
    · rw [hg_tn] at hm; omega
    · rw [hg_tn] at hm; omega
    · rw [hg_tn] at hm; omega
    · rw [hg_tn] at hm; omega
    · rw [hg_tn] at hm; omega
  | succ m ih =>
    intro e hm hw0 hv d t a b n g gl i w wi ne hn hi hi2 hw R hg
    rcases wt_c hw0 with ⟨v, rfl⟩ | (rfl | rfl) | ⟨e1, e2, w1, w2, rfl | rfl⟩ | ⟨e1, w1, rfl⟩
    · exact vars v (hv v rfl) (d + (m + 1)) t a b n g gl i w wi ne hn hi hi2 hw R hg
    · have e1 : pz (tn 1 tr_0 tr_0 tr_0) = 1 := rfl
      exact show_int (d := d + (m + 1)) (j := 0) ne hn (by omega) hw (RX_c R).1
    · have e1 : pz (tn 2 tr_0 tr_0 tr_0) = 1 := rfl
      exact show_bool (d := d + (m + 1)) (j := 0) ne hn (by omega) hw (RX_c R).1
    · rw [hg_tn] at hm
      rw [kds_5] at R
      rw [pz_tn5] at hi2
      have z1 := pz_0 e1
      have z2 := pz_0 e2
      have y1 := pz_wt w1
      have y2 := pz_wt w2
      have l1 := kds_len _ e1 (Nat.le_refl _) w1
      obtain ⟨r1, r2⟩ := RX_c R
      obtain ⟨r3, r4⟩ := RX_a r2
      have x1 : i.toNat + 1 = (i + 1).toNat := by omega
      have x2 : i.toNat + 1 + (kds e1).length = (i + 1 + pz e1).toNat := by omega
      rw [x2] at r4
      rw [x1] at r3
      have hv1 : ∀ v, vin v e1 → v < 3 := fun v q => hv v (vin_tn.mpr (Or.inl q))
      have hv2 : ∀ v, vin v e2 → v < 3 := fun v q => hv v (vin_tn.mpr (Or.inr (Or.inl q)))
      refine show_5 (d := d + (m + 1)) (j := i + 1 + pz e1) ne hn (by omega) hw r1 w1 w2 ?_ (fun h A => ?_) ?_
      · exact ih e1 (by omega) w1 hv1 d t a b n g gl (i + 1) 2 2 ne hn (by omega) (by omega) ⟨rfl, by decide⟩ r3 hg
      · have := lw_behind (X := X) m e1 (by omega) w1 (d + 4) h a g (i + 1).toNat A r3 (by omega)
        rw [show (((i + 1).toNat : Nat) : Int) = i + 1 by omega, show d + 4 + m + 1 = d + (m + 1) + 4 by omega] at this
        exact this
      · exact ih e2 (by omega) w2 hv2 d t a b n g gl (i + 1 + pz e1) 2 2 ne hn (by omega) (by omega) ⟨rfl, by decide⟩ r4 hg
    · rw [hg_tn] at hm
      rw [kds_6] at R
      rw [pz_tn6] at hi2
      have z1 := pz_0 e1
      have z2 := pz_0 e2
      have y1 := pz_wt w1
      have y2 := pz_wt w2
      have l1 := kds_len _ e1 (Nat.le_refl _) w1
      obtain ⟨r1, r2⟩ := RX_c R
      obtain ⟨r3, r4⟩ := RX_a r2
      have x1 : i.toNat + 1 = (i + 1).toNat := by omega
      have x2 : i.toNat + 1 + (kds e1).length = (i + 1 + pz e1).toNat := by omega
      rw [x2] at r4
      rw [x1] at r3
      have hv1 : ∀ v, vin v e1 → v < 3 := fun v q => hv v (vin_tn.mpr (Or.inl q))
      have hv2 : ∀ v, vin v e2 → v < 3 := fun v q => hv v (vin_tn.mpr (Or.inr (Or.inl q)))
      refine show_6 (d := d + (m + 1)) (j := i + 1 + pz e1) ne hn (by omega) hw r1 w1 w2 ?_ (fun h A => ?_) ?_
      · exact ih e1 (by omega) w1 hv1 d t a b n g gl (i + 1) 1 1 ne hn (by omega) (by omega) ⟨rfl, by decide⟩ r3 hg
      · have := lw_behind (X := X) m e1 (by omega) w1 (d + 4) h a g (i + 1).toNat A r3 (by omega)
        rw [show (((i + 1).toNat : Nat) : Int) = i + 1 by omega, show d + 4 + m + 1 = d + (m + 1) + 4 by omega] at this
        exact this
      · exact ih e2 (by omega) w2 hv2 d t a b n g gl (i + 1 + pz e1) 0 0 ne hn (by omega) (by omega) ⟨rfl, by decide⟩ r4 hg
    · rw [hg_tn] at hm
      rw [kds_9] at R
      rw [pz_tn9] at hi2
      have y1 := pz_wt w1
      obtain ⟨r1, r2⟩ := RX_c R
      have x1 : i.toNat + 1 = (i + 1).toNat := by omega
      rw [x1] at r2
      have hv1 : ∀ v, vin v e1 → v < 3 := fun v q => hv v (vin_tn.mpr (Or.inl q))
      exact show_9 (d := d + (m + 1)) (j := 0) ne hn (by omega) hw r1 w1 (ih e1 (by omega) w1 hv1 d t a b n g gl (i + 1) 3 3 ne hn (by omega) (by omega) ⟨rfl, by decide⟩ r2 hg)
end LW
