/-! ===== the law, up to its program's compile (printed by wip/gen/p_law7.py) ===== -/
theorem TL_tyl {e : tr} (h : TL 3 e) : tyl e := ⟨h.1, h.2.1, fun v hv => by have := h.2.2.1 v hv; omega, h.2.2.2⟩
theorem lw_type0 {N : Nat} {xs : Nat → Int32} {h : mi_H} {a b : Nat} {g gb : Nat → Int} {q : Nat} (hN : N ≤ 2147483647) (A : LA h a 40 g) (B : LA h b 1 gb) (ne : a ≠ b) (g0 : g 0 = ((0 : Nat) : Int)) (q0 : gb 0 = (q : Int)) (hq : q + 15 ≤ 100) : LCv (some (N, xs)) 81 mi_M177 [(0, .ref a), (1, .retAddr 3), (2, .ref b), (3, .int (Int32.ofInt 0))] h 0 0 (TYQ h a b g 0 q 3) :=
  lw_type hN 3 (by decide) 77 h a b g gb 0 q A B ne g0 (by decide) q0 hq
theorem lw_show0 {X : mi_X} {e : tr} {t a b : Nat} {g gl : Nat → Int} {h : mi_H} {bs : List Int} (T : TL 3 e) (ne : t ≠ a ∧ t ≠ b ∧ a ≠ b) (R : RX g (0 + 1) (kds e)) (A : LT h t 1200 bs) (B : LA h a 40 g) (C : LA h b (6 : Int).toNat gl) (hl : (bs.length : Int) + 9 * pz e + 1 < (1200 : Nat)) (hg : gl 2 = 2 ∧ gl 3 = 0 ∧ gl 4 = 1) : LCv X 81 mi_M176 [(0, .ref t), (1, .ref a), (2, .int (Int32.ofInt 1)), (3, .int (Int32.ofInt 0)), (4, .ref b)] h (pz e).toNat (5 * (pz e).toNat) (fun h' => LT h' t 1200 (bs ++ wrp (brk 0 e) (prt e)) ∧ LF h h' [t]) :=
  lw_show 4 e T.2.1 T.1 T.2.2.1 72 t a b 1200 g gl 1 0 0 ne (by decide) (by decide) (by have := T.2.2.2; have e15 : lvB 3 = 15 := rfl; omega) ⟨rfl, by decide⟩ R hg h bs A B C hl
section LW
variable {N : Nat} {xs : Nat → Int32} {h : mi_H} {σ : mi_Sg}
set_option maxHeartbeats 1000000 in
theorem law_b0 {k q rw nx c s : Nat} {bs : List Int} {gn : Nat → Int} {Q : mi_Z → Prop} (hN : N ≤ 2147483647) (hk : k < 3) (S : ty_H h σ) (A_rw : LT h rw 1200 bs) (A_nx : LA h nx 1 gn) (rw55 : 55 ≤ rw) (nx55 : 55 ≤ nx) (ne : rw ≠ nx) (gq : gn 0 = (q : Int)) (hq : q ≤ 60) (hl : bs.length ≤ 500)
    (kk : ∀ h' e ow lt gn' c' s', TL 3 e → ty_H h' σ → LT h' rw 1200 (((((((bs ++ [100, 101, 102, 32, 100]) ++ [48 + (k : Int)]) ++ [32, 58, 32]) ++ wrp (brk 0 e) (prt e)) ++ [32, 61, 32, 100]) ++ [48 + (k : Int)]) ++ [59, 32]) → LA h' nx 1 gn' → pz e ≤ 15 → gn' 0 = (q : Int) + pz e → c' ≤ c + 20 → s' ≤ s + 150 → mi_wp (some (N, xs)) 82 mi_ML 25 [(4, .int (Int32.ofInt ((k : Int) + 1))), (6, .ref lt), (5, .ref ow), (3, .ref nx), (2, .ref rw), (1, .ref 0), (0, .retAddr 3)] [] h' c' s' Q) : mi_wp (some (N, xs)) 82 mi_ML 25 [(4, .int (Int32.ofInt (k : Int))), (3, .ref nx), (2, .ref rw), (1, .ref 0), (0, .retAddr 3)] [] h c s Q := by
  refine mi_wp_p (pc' := 27) (st' := [.int (Int32.ofInt (k : Int))]) rfl rfl rfl ?_
  refine mi_wp_p (pc' := 28) (st' := [.int (Int32.ofInt 3), .int (Int32.ofInt (k : Int))]) rfl rfl rfl ?_
  refine mi_s_if2 (t := 127) rfl rfl rfl (by unfold mi_R; omega) (by unfold mi_R; omega) (fun hc_ => absurd (show 3 ≤ (k : Int) from hc_) (by omega)) (fun _ => ?_)
  refine mi_s_k (pc' := 33) (e := 40) rfl rfl rfl (by decide +kernel) ?_
  have l55_ow := ty_H_55 S
  refine ls_new rfl rfl (by omega) (by omega) ?_
  intro h1_ ow e_ow A_ow f e2_ow
  clear e2_ow
  have b55_ow : 55 ≤ ow := by omega
  have ne_rw_ow : rw ≠ ow := by have := LT_lt A_rw; omega
  have ne_nx_ow : nx ≠ ow := by have := LA_lt A_nx; omega
  replace A_rw := LT_F0 A_rw f
  replace A_nx := LA_F0 A_nx f
  replace S := ty_H_F0 S f
  refine mi_wp_p (pc' := 37) (l' := [(5, .ref ow), (4, .int (Int32.ofInt (k : Int))), (3, .ref nx), (2, .ref rw), (1, .ref 0), (0, .retAddr 3)]) (st' := []) rfl rfl rfl ?_
  refine mi_wp_p (pc' := 39) (st' := [.ref ow]) rfl rfl rfl ?_
  refine mi_wp_p (pc' := 40) (st' := [.retAddr 3, .ref ow]) rfl rfl rfl ?_
  refine mi_wp_p (pc' := 41) (st' := [.ref nx, .retAddr 3, .ref ow]) rfl rfl rfl ?_
  refine mi_wp_p (pc' := 42) (st' := [.int (Int32.ofInt 0), .ref nx, .retAddr 3, .ref ow]) rfl rfl rfl ?_
  refine ls_cv rfl rfl rfl rfl rfl rfl (mi_cal_s2 (np := 4) (args := [.ref ow, .retAddr 3, .ref nx, .int (Int32.ofInt 0)]) (rest := []) rfl rfl rfl (Or.inl rfl) rfl (Nat.le_of_ble_eq_true rfl) rfl rfl (Nat.le_of_ble_eq_true rfl)) (Nat.le_of_ble_eq_true rfl) (lw_type0 hN A_ow A_nx (by omega) rfl gq (by omega)) ?_
  intro hh2 c_ s_ hc_ hs_ P
  obtain rfl : c_ = 0 := by omega
  obtain rfl : s_ = 0 := by omega
  obtain ⟨e, g2, gn2, TLe, A_ow, A_nx, g20, gn20, -, RXe, f⟩ := P
  replace A_rw := LT_F A_rw f (by simp; omega)
  replace S := ty_H_F S f (by intro k_ m_; simp at m_; omega)
  have Te : tyl e := TL_tyl TLe
  have we := wrp_9 (w := 0) TLe.1
  have pe := TLe.2.2.2
  have pe2 := pz_wt TLe.1
  replace pe : pz e ≤ 15 := pe
  refine mi_s_k (pc' := 47) (e := 6) rfl rfl rfl (by decide +kernel) ?_
  have l55_lt := ty_H_55 S
  refine ls_new rfl rfl (by omega) (by omega) ?_
  intro h3_ lt e_lt A_lt f e2_lt
  clear e2_lt
  have b55_lt : 55 ≤ lt := by omega
  have ne_rw_lt : rw ≠ lt := by have := LT_lt A_rw; omega
  have ne_nx_lt : nx ≠ lt := by have := LA_lt A_nx; omega
  have ne_ow_lt : ow ≠ lt := by have := LA_lt A_ow; omega
  replace A_rw := LT_F0 A_rw f
  replace A_nx := LA_F0 A_nx f
  replace A_ow := LA_F0 A_ow f
  replace S := ty_H_F0 S f
  refine mi_wp_p (pc' := 50) (st' := [.ref lt, .ref lt]) rfl rfl rfl ?_
  refine mi_wp_p (pc' := 51) (st' := [.int (Int32.ofInt 0), .ref lt, .ref lt]) rfl rfl rfl ?_
  refine mi_wp_p (pc' := 52) (st' := [.int (Int32.ofInt 0), .int (Int32.ofInt 0), .ref lt, .ref lt]) rfl rfl rfl ?_
  refine ls_ast A_lt rfl rfl (by omega) (by omega) (by omega) ?_
  intro h4_ A_lt f
  replace A_rw := LT_F1 A_rw f (by omega)
  replace A_nx := LA_F1 A_nx f (by omega)
  replace A_ow := LA_F1 A_ow f (by omega)
  replace S := ty_H_F1 S f (by omega)
  refine mi_wp_p (pc' := 54) (st' := [.ref lt, .ref lt]) rfl rfl rfl ?_
  refine mi_wp_p (pc' := 55) (st' := [.int (Int32.ofInt 1), .ref lt, .ref lt]) rfl rfl rfl ?_
  refine mi_wp_p (pc' := 56) (st' := [.int (Int32.ofInt 0), .int (Int32.ofInt 1), .ref lt, .ref lt]) rfl rfl rfl ?_
  refine ls_ast A_lt rfl rfl (by omega) (by omega) (by omega) ?_
  intro h5_ A_lt f
  replace A_rw := LT_F1 A_rw f (by omega)
  replace A_nx := LA_F1 A_nx f (by omega)
  replace A_ow := LA_F1 A_ow f (by omega)
  replace S := ty_H_F1 S f (by omega)
  refine mi_wp_p (pc' := 58) (st' := [.ref lt, .ref lt]) rfl rfl rfl ?_
  refine mi_wp_p (pc' := 59) (st' := [.int (Int32.ofInt 2), .ref lt, .ref lt]) rfl rfl rfl ?_
  refine mi_wp_p (pc' := 60) (st' := [.int (Int32.ofInt 2), .int (Int32.ofInt 2), .ref lt, .ref lt]) rfl rfl rfl ?_
  refine ls_ast A_lt rfl rfl (by omega) (by omega) (by omega) ?_
  intro h6_ A_lt f
  replace A_rw := LT_F1 A_rw f (by omega)
  replace A_nx := LA_F1 A_nx f (by omega)
  replace A_ow := LA_F1 A_ow f (by omega)
  replace S := ty_H_F1 S f (by omega)
  refine mi_wp_p (pc' := 62) (st' := [.ref lt, .ref lt]) rfl rfl rfl ?_
  refine mi_wp_p (pc' := 63) (st' := [.int (Int32.ofInt 3), .ref lt, .ref lt]) rfl rfl rfl ?_
  refine mi_wp_p (pc' := 64) (st' := [.int (Int32.ofInt 0), .int (Int32.ofInt 3), .ref lt, .ref lt]) rfl rfl rfl ?_
  refine ls_ast A_lt rfl rfl (by omega) (by omega) (by omega) ?_
  intro h7_ A_lt f
  replace A_rw := LT_F1 A_rw f (by omega)
  replace A_nx := LA_F1 A_nx f (by omega)
  replace A_ow := LA_F1 A_ow f (by omega)
  replace S := ty_H_F1 S f (by omega)
  refine mi_wp_p (pc' := 66) (st' := [.ref lt, .ref lt]) rfl rfl rfl ?_
  refine mi_wp_p (pc' := 67) (st' := [.int (Int32.ofInt 4), .ref lt, .ref lt]) rfl rfl rfl ?_
  refine mi_wp_p (pc' := 68) (st' := [.int (Int32.ofInt 1), .int (Int32.ofInt 4), .ref lt, .ref lt]) rfl rfl rfl ?_
  refine ls_ast A_lt rfl rfl (by omega) (by omega) (by omega) ?_
  intro h8_ A_lt f
  replace A_rw := LT_F1 A_rw f (by omega)
  replace A_nx := LA_F1 A_nx f (by omega)
  replace A_ow := LA_F1 A_ow f (by omega)
  replace S := ty_H_F1 S f (by omega)
  refine mi_wp_p (pc' := 70) (st' := [.ref lt, .ref lt]) rfl rfl rfl ?_
  refine mi_wp_p (pc' := 71) (st' := [.int (Int32.ofInt 5), .ref lt, .ref lt]) rfl rfl rfl ?_
  refine mi_wp_p (pc' := 72) (st' := [.int (Int32.ofInt 3), .int (Int32.ofInt 5), .ref lt, .ref lt]) rfl rfl rfl ?_
  refine ls_ast A_lt rfl rfl (by omega) (by omega) (by omega) ?_
  intro h9_ A_lt f
  replace A_rw := LT_F1 A_rw f (by omega)
  replace A_nx := LA_F1 A_nx f (by omega)
  replace A_ow := LA_F1 A_ow f (by omega)
  replace S := ty_H_F1 S f (by omega)
  refine mi_wp_p (pc' := 75) (l' := [(6, .ref lt), (5, .ref ow), (4, .int (Int32.ofInt (k : Int))), (3, .ref nx), (2, .ref rw), (1, .ref 0), (0, .retAddr 3)]) (st' := []) rfl rfl rfl ?_
  refine mi_wp_p (pc' := 76) (st' := [.ref rw]) rfl rfl rfl ?_
  refine mi_s_lds (i := 31) rfl rfl rfl rfl rfl ?_
  refine ls_cv rfl rfl rfl rfl rfl rfl (mi_cal_s2 (np := 2) (args := [.ref rw, .retAddr 124]) (rest := []) rfl rfl rfl (Or.inl rfl) rfl (Nat.le_of_ble_eq_true rfl) rfl rfl (Nat.le_of_ble_eq_true rfl)) (Nat.le_of_ble_eq_true rfl) (lw_puts (d := 77) STR_31 A_rw (by first | omega | (simp only [List.length_append, List.length_cons, List.length_nil]; omega)) (by decide)) ?_
  intro hh10 c_ s_ hc_ hs_ P
  obtain rfl : c_ = 0 := by omega
  obtain rfl : s_ = 0 := by omega
  obtain ⟨A_rw, f⟩ := P
  replace A_nx := LA_F1 A_nx f (by omega)
  replace A_ow := LA_F1 A_ow f (by omega)
  replace A_lt := LA_F1 A_lt f (by omega)
  replace S := ty_H_F1 S f (by omega)
  refine mi_wp_p (pc' := 82) (st' := [.ref rw]) rfl rfl rfl ?_
  refine mi_wp_p (pc' := 84) (st' := [.int (Int32.ofInt (k : Int)), .ref rw]) rfl rfl rfl ?_
  refine ls_cv rfl rfl rfl rfl rfl rfl (mi_cal_s2 (np := 2) (args := [.ref rw, .int (Int32.ofInt (k : Int))]) (rest := []) rfl rfl rfl (Or.inl rfl) rfl (Nat.le_of_ble_eq_true rfl) rfl rfl (Nat.le_of_ble_eq_true rfl)) (Nat.le_of_ble_eq_true rfl) (lw_puti (d := 81) (k := k) (by omega) A_rw (by first | omega | (simp only [List.length_append, List.length_cons, List.length_nil]; omega)) (by decide)) ?_
  intro hh11 c_ s_ hc_ hs_ P
  obtain rfl : c_ = 0 := by omega
  obtain rfl : s_ = 0 := by omega
  obtain ⟨A_rw, f⟩ := P
  replace A_nx := LA_F1 A_nx f (by omega)
  replace A_ow := LA_F1 A_ow f (by omega)
  replace A_lt := LA_F1 A_lt f (by omega)
  replace S := ty_H_F1 S f (by omega)
  refine mi_wp_p (pc' := 88) (st' := [.ref rw]) rfl rfl rfl ?_
  refine mi_s_lds (i := 32) rfl rfl rfl rfl rfl ?_
  refine ls_cv rfl rfl rfl rfl rfl rfl (mi_cal_s2 (np := 2) (args := [.ref rw, .retAddr 128]) (rest := []) rfl rfl rfl (Or.inl rfl) rfl (Nat.le_of_ble_eq_true rfl) rfl rfl (Nat.le_of_ble_eq_true rfl)) (Nat.le_of_ble_eq_true rfl) (lw_puts (d := 77) STR_32 A_rw (by first | omega | (simp only [List.length_append, List.length_cons, List.length_nil]; omega)) (by decide)) ?_
  intro hh12 c_ s_ hc_ hs_ P
  obtain rfl : c_ = 0 := by omega
  obtain rfl : s_ = 0 := by omega
  obtain ⟨A_rw, f⟩ := P
  replace A_nx := LA_F1 A_nx f (by omega)
  replace A_ow := LA_F1 A_ow f (by omega)
  replace A_lt := LA_F1 A_lt f (by omega)
  replace S := ty_H_F1 S f (by omega)
  refine mi_wp_p (pc' := 94) (st' := [.ref rw]) rfl rfl rfl ?_
  refine mi_wp_p (pc' := 96) (st' := [.ref ow, .ref rw]) rfl rfl rfl ?_
  refine mi_wp_p (pc' := 97) (st' := [.int (Int32.ofInt 1), .ref ow, .ref rw]) rfl rfl rfl ?_
  refine mi_wp_p (pc' := 98) (st' := [.int (Int32.ofInt 0), .int (Int32.ofInt 1), .ref ow, .ref rw]) rfl rfl rfl ?_
  refine mi_wp_p (pc' := 100) (st' := [.ref lt, .int (Int32.ofInt 0), .int (Int32.ofInt 1), .ref ow, .ref rw]) rfl rfl rfl ?_
  refine ls_cv rfl rfl rfl rfl rfl rfl (mi_cal_s2 (np := 5) (args := [.ref rw, .ref ow, .int (Int32.ofInt 1), .int (Int32.ofInt 0), .ref lt]) (rest := []) rfl rfl rfl (Or.inl rfl) rfl (Nat.le_of_ble_eq_true rfl) rfl rfl (Nat.le_of_ble_eq_true rfl)) (Nat.le_of_ble_eq_true rfl) (lw_show0 TLe (by omega) RXe A_rw A_ow A_lt (by first | omega | (simp only [List.length_append, List.length_cons, List.length_nil]; omega)) ⟨rfl, rfl, rfl⟩) ?_
  intro hh13 c1_ s1_ hc1_ hs1_ P
  obtain ⟨A_rw, f⟩ := P
  replace A_nx := LA_F1 A_nx f (by omega)
  replace A_ow := LA_F1 A_ow f (by omega)
  replace A_lt := LA_F1 A_lt f (by omega)
  replace S := ty_H_F1 S f (by omega)
  refine mi_wp_p (pc' := 104) (st' := [.ref rw]) rfl rfl rfl ?_
  refine mi_s_lds (i := 33) rfl rfl rfl rfl rfl ?_
  refine ls_cv rfl rfl rfl rfl rfl rfl (mi_cal_s2 (np := 2) (args := [.ref rw, .retAddr 132]) (rest := []) rfl rfl rfl (Or.inl rfl) rfl (Nat.le_of_ble_eq_true rfl) rfl rfl (Nat.le_of_ble_eq_true rfl)) (Nat.le_of_ble_eq_true rfl) (lw_puts (d := 77) STR_33 A_rw (by first | omega | (simp only [List.length_append, List.length_cons, List.length_nil]; omega)) (by decide)) ?_
  intro hh14 c_ s_ hc_ hs_ P
  obtain rfl : c_ = 0 := by omega
  obtain rfl : s_ = 0 := by omega
  obtain ⟨A_rw, f⟩ := P
  replace A_nx := LA_F1 A_nx f (by omega)
  replace A_ow := LA_F1 A_ow f (by omega)
  replace A_lt := LA_F1 A_lt f (by omega)
  replace S := ty_H_F1 S f (by omega)
  refine mi_wp_p (pc' := 110) (st' := [.ref rw]) rfl rfl rfl ?_
  refine mi_wp_p (pc' := 112) (st' := [.int (Int32.ofInt (k : Int)), .ref rw]) rfl rfl rfl ?_
  refine ls_cv rfl rfl rfl rfl rfl rfl (mi_cal_s2 (np := 2) (args := [.ref rw, .int (Int32.ofInt (k : Int))]) (rest := []) rfl rfl rfl (Or.inl rfl) rfl (Nat.le_of_ble_eq_true rfl) rfl rfl (Nat.le_of_ble_eq_true rfl)) (Nat.le_of_ble_eq_true rfl) (lw_puti (d := 81) (k := k) (by omega) A_rw (by first | omega | (simp only [List.length_append, List.length_cons, List.length_nil]; omega)) (by decide)) ?_
  intro hh15 c_ s_ hc_ hs_ P
  obtain rfl : c_ = 0 := by omega
  obtain rfl : s_ = 0 := by omega
  obtain ⟨A_rw, f⟩ := P
  replace A_nx := LA_F1 A_nx f (by omega)
  replace A_ow := LA_F1 A_ow f (by omega)
  replace A_lt := LA_F1 A_lt f (by omega)
  replace S := ty_H_F1 S f (by omega)
  refine mi_wp_p (pc' := 116) (st' := [.ref rw]) rfl rfl rfl ?_
  refine mi_s_lds (i := 34) rfl rfl rfl rfl rfl ?_
  refine ls_cv rfl rfl rfl rfl rfl rfl (mi_cal_s2 (np := 2) (args := [.ref rw, .retAddr 136]) (rest := []) rfl rfl rfl (Or.inl rfl) rfl (Nat.le_of_ble_eq_true rfl) rfl rfl (Nat.le_of_ble_eq_true rfl)) (Nat.le_of_ble_eq_true rfl) (lw_puts (d := 77) STR_34 A_rw (by first | omega | (simp only [List.length_append, List.length_cons, List.length_nil]; omega)) (by decide)) ?_
  intro hh16 c_ s_ hc_ hs_ P
  obtain rfl : c_ = 0 := by omega
  obtain rfl : s_ = 0 := by omega
  obtain ⟨A_rw, f⟩ := P
  replace A_nx := LA_F1 A_nx f (by omega)
  replace A_ow := LA_F1 A_ow f (by omega)
  replace A_lt := LA_F1 A_lt f (by omega)
  replace S := ty_H_F1 S f (by omega)
  refine mi_s_inc (l' := [(4, .int (Int32.ofInt ((k : Int) + 1))), (6, .ref lt), (5, .ref ow), (3, .ref nx), (2, .ref rw), (1, .ref 0), (0, .retAddr 3)]) rfl rfl rfl (by decide) rfl ?_
  refine mi_wp_p (pc' := 25) rfl rfl rfl ?_
  exact kk _ e ow lt gn2 _ _ TLe S A_rw A_nx (by omega) gn20 (by omega) (by omega)
set_option maxHeartbeats 1000000 in
theorem law_b1 {k q rw nx o5 o6 c s : Nat} {bs : List Int} {gn : Nat → Int} {Q : mi_Z → Prop} (hN : N ≤ 2147483647) (hk : k < 3) (S : ty_H h σ) (A_rw : LT h rw 1200 bs) (A_nx : LA h nx 1 gn) (rw55 : 55 ≤ rw) (nx55 : 55 ≤ nx) (ne : rw ≠ nx) (gq : gn 0 = (q : Int)) (hq : q ≤ 60) (hl : bs.length ≤ 500)
    (kk : ∀ h' e ow lt gn' c' s', TL 3 e → ty_H h' σ → LT h' rw 1200 (((((((bs ++ [100, 101, 102, 32, 100]) ++ [48 + (k : Int)]) ++ [32, 58, 32]) ++ wrp (brk 0 e) (prt e)) ++ [32, 61, 32, 100]) ++ [48 + (k : Int)]) ++ [59, 32]) → LA h' nx 1 gn' → pz e ≤ 15 → gn' 0 = (q : Int) + pz e → c' ≤ c + 20 → s' ≤ s + 150 → mi_wp (some (N, xs)) 82 mi_ML 25 [(4, .int (Int32.ofInt ((k : Int) + 1))), (6, .ref lt), (5, .ref ow), (3, .ref nx), (2, .ref rw), (1, .ref 0), (0, .retAddr 3)] [] h' c' s' Q) : mi_wp (some (N, xs)) 82 mi_ML 25 [(4, .int (Int32.ofInt (k : Int))), (6, .ref o6), (5, .ref o5), (3, .ref nx), (2, .ref rw), (1, .ref 0), (0, .retAddr 3)] [] h c s Q := by
  refine mi_wp_p (pc' := 27) (st' := [.int (Int32.ofInt (k : Int))]) rfl rfl rfl ?_
  refine mi_wp_p (pc' := 28) (st' := [.int (Int32.ofInt 3), .int (Int32.ofInt (k : Int))]) rfl rfl rfl ?_
  refine mi_s_if2 (t := 127) rfl rfl rfl (by unfold mi_R; omega) (by unfold mi_R; omega) (fun hc_ => absurd (show 3 ≤ (k : Int) from hc_) (by omega)) (fun _ => ?_)
  refine mi_s_k (pc' := 33) (e := 40) rfl rfl rfl (by decide +kernel) ?_
  have l55_ow := ty_H_55 S
  refine ls_new rfl rfl (by omega) (by omega) ?_
  intro h17_ ow e_ow A_ow f e2_ow
  clear e2_ow
  have b55_ow : 55 ≤ ow := by omega
  have ne_rw_ow : rw ≠ ow := by have := LT_lt A_rw; omega
  have ne_nx_ow : nx ≠ ow := by have := LA_lt A_nx; omega
  replace A_rw := LT_F0 A_rw f
  replace A_nx := LA_F0 A_nx f
  replace S := ty_H_F0 S f
  refine mi_wp_p (pc' := 37) (l' := [(5, .ref ow), (4, .int (Int32.ofInt (k : Int))), (6, .ref o6), (3, .ref nx), (2, .ref rw), (1, .ref 0), (0, .retAddr 3)]) (st' := []) rfl rfl rfl ?_
  refine mi_wp_p (pc' := 39) (st' := [.ref ow]) rfl rfl rfl ?_
  refine mi_wp_p (pc' := 40) (st' := [.retAddr 3, .ref ow]) rfl rfl rfl ?_
  refine mi_wp_p (pc' := 41) (st' := [.ref nx, .retAddr 3, .ref ow]) rfl rfl rfl ?_
  refine mi_wp_p (pc' := 42) (st' := [.int (Int32.ofInt 0), .ref nx, .retAddr 3, .ref ow]) rfl rfl rfl ?_
  refine ls_cv rfl rfl rfl rfl rfl rfl (mi_cal_s2 (np := 4) (args := [.ref ow, .retAddr 3, .ref nx, .int (Int32.ofInt 0)]) (rest := []) rfl rfl rfl (Or.inl rfl) rfl (Nat.le_of_ble_eq_true rfl) rfl rfl (Nat.le_of_ble_eq_true rfl)) (Nat.le_of_ble_eq_true rfl) (lw_type0 hN A_ow A_nx (by omega) rfl gq (by omega)) ?_
  intro hh18 c_ s_ hc_ hs_ P
  obtain rfl : c_ = 0 := by omega
  obtain rfl : s_ = 0 := by omega
  obtain ⟨e, g2, gn2, TLe, A_ow, A_nx, g20, gn20, -, RXe, f⟩ := P
  replace A_rw := LT_F A_rw f (by simp; omega)
  replace S := ty_H_F S f (by intro k_ m_; simp at m_; omega)
  have Te : tyl e := TL_tyl TLe
  have we := wrp_9 (w := 0) TLe.1
  have pe := TLe.2.2.2
  have pe2 := pz_wt TLe.1
  replace pe : pz e ≤ 15 := pe
  refine mi_s_k (pc' := 47) (e := 6) rfl rfl rfl (by decide +kernel) ?_
  have l55_lt := ty_H_55 S
  refine ls_new rfl rfl (by omega) (by omega) ?_
  intro h19_ lt e_lt A_lt f e2_lt
  clear e2_lt
  have b55_lt : 55 ≤ lt := by omega
  have ne_rw_lt : rw ≠ lt := by have := LT_lt A_rw; omega
  have ne_nx_lt : nx ≠ lt := by have := LA_lt A_nx; omega
  have ne_ow_lt : ow ≠ lt := by have := LA_lt A_ow; omega
  replace A_rw := LT_F0 A_rw f
  replace A_nx := LA_F0 A_nx f
  replace A_ow := LA_F0 A_ow f
  replace S := ty_H_F0 S f
  refine mi_wp_p (pc' := 50) (st' := [.ref lt, .ref lt]) rfl rfl rfl ?_
  refine mi_wp_p (pc' := 51) (st' := [.int (Int32.ofInt 0), .ref lt, .ref lt]) rfl rfl rfl ?_
  refine mi_wp_p (pc' := 52) (st' := [.int (Int32.ofInt 0), .int (Int32.ofInt 0), .ref lt, .ref lt]) rfl rfl rfl ?_
  refine ls_ast A_lt rfl rfl (by omega) (by omega) (by omega) ?_
  intro h20_ A_lt f
  replace A_rw := LT_F1 A_rw f (by omega)
  replace A_nx := LA_F1 A_nx f (by omega)
  replace A_ow := LA_F1 A_ow f (by omega)
  replace S := ty_H_F1 S f (by omega)
  refine mi_wp_p (pc' := 54) (st' := [.ref lt, .ref lt]) rfl rfl rfl ?_
  refine mi_wp_p (pc' := 55) (st' := [.int (Int32.ofInt 1), .ref lt, .ref lt]) rfl rfl rfl ?_
  refine mi_wp_p (pc' := 56) (st' := [.int (Int32.ofInt 0), .int (Int32.ofInt 1), .ref lt, .ref lt]) rfl rfl rfl ?_
  refine ls_ast A_lt rfl rfl (by omega) (by omega) (by omega) ?_
  intro h21_ A_lt f
  replace A_rw := LT_F1 A_rw f (by omega)
  replace A_nx := LA_F1 A_nx f (by omega)
  replace A_ow := LA_F1 A_ow f (by omega)
  replace S := ty_H_F1 S f (by omega)
  refine mi_wp_p (pc' := 58) (st' := [.ref lt, .ref lt]) rfl rfl rfl ?_
  refine mi_wp_p (pc' := 59) (st' := [.int (Int32.ofInt 2), .ref lt, .ref lt]) rfl rfl rfl ?_
  refine mi_wp_p (pc' := 60) (st' := [.int (Int32.ofInt 2), .int (Int32.ofInt 2), .ref lt, .ref lt]) rfl rfl rfl ?_
  refine ls_ast A_lt rfl rfl (by omega) (by omega) (by omega) ?_
  intro h22_ A_lt f
  replace A_rw := LT_F1 A_rw f (by omega)
  replace A_nx := LA_F1 A_nx f (by omega)
  replace A_ow := LA_F1 A_ow f (by omega)
  replace S := ty_H_F1 S f (by omega)
  refine mi_wp_p (pc' := 62) (st' := [.ref lt, .ref lt]) rfl rfl rfl ?_
  refine mi_wp_p (pc' := 63) (st' := [.int (Int32.ofInt 3), .ref lt, .ref lt]) rfl rfl rfl ?_
  refine mi_wp_p (pc' := 64) (st' := [.int (Int32.ofInt 0), .int (Int32.ofInt 3), .ref lt, .ref lt]) rfl rfl rfl ?_
  refine ls_ast A_lt rfl rfl (by omega) (by omega) (by omega) ?_
  intro h23_ A_lt f
  replace A_rw := LT_F1 A_rw f (by omega)
  replace A_nx := LA_F1 A_nx f (by omega)
  replace A_ow := LA_F1 A_ow f (by omega)
  replace S := ty_H_F1 S f (by omega)
  refine mi_wp_p (pc' := 66) (st' := [.ref lt, .ref lt]) rfl rfl rfl ?_
  refine mi_wp_p (pc' := 67) (st' := [.int (Int32.ofInt 4), .ref lt, .ref lt]) rfl rfl rfl ?_
  refine mi_wp_p (pc' := 68) (st' := [.int (Int32.ofInt 1), .int (Int32.ofInt 4), .ref lt, .ref lt]) rfl rfl rfl ?_
  refine ls_ast A_lt rfl rfl (by omega) (by omega) (by omega) ?_
  intro h24_ A_lt f
  replace A_rw := LT_F1 A_rw f (by omega)
  replace A_nx := LA_F1 A_nx f (by omega)
  replace A_ow := LA_F1 A_ow f (by omega)
  replace S := ty_H_F1 S f (by omega)
  refine mi_wp_p (pc' := 70) (st' := [.ref lt, .ref lt]) rfl rfl rfl ?_
  refine mi_wp_p (pc' := 71) (st' := [.int (Int32.ofInt 5), .ref lt, .ref lt]) rfl rfl rfl ?_
  refine mi_wp_p (pc' := 72) (st' := [.int (Int32.ofInt 3), .int (Int32.ofInt 5), .ref lt, .ref lt]) rfl rfl rfl ?_
  refine ls_ast A_lt rfl rfl (by omega) (by omega) (by omega) ?_
  intro h25_ A_lt f
  replace A_rw := LT_F1 A_rw f (by omega)
  replace A_nx := LA_F1 A_nx f (by omega)
  replace A_ow := LA_F1 A_ow f (by omega)
  replace S := ty_H_F1 S f (by omega)
  refine mi_wp_p (pc' := 75) (l' := [(6, .ref lt), (5, .ref ow), (4, .int (Int32.ofInt (k : Int))), (3, .ref nx), (2, .ref rw), (1, .ref 0), (0, .retAddr 3)]) (st' := []) rfl rfl rfl ?_
  refine mi_wp_p (pc' := 76) (st' := [.ref rw]) rfl rfl rfl ?_
  refine mi_s_lds (i := 31) rfl rfl rfl rfl rfl ?_
  refine ls_cv rfl rfl rfl rfl rfl rfl (mi_cal_s2 (np := 2) (args := [.ref rw, .retAddr 124]) (rest := []) rfl rfl rfl (Or.inl rfl) rfl (Nat.le_of_ble_eq_true rfl) rfl rfl (Nat.le_of_ble_eq_true rfl)) (Nat.le_of_ble_eq_true rfl) (lw_puts (d := 77) STR_31 A_rw (by first | omega | (simp only [List.length_append, List.length_cons, List.length_nil]; omega)) (by decide)) ?_
  intro hh26 c_ s_ hc_ hs_ P
  obtain rfl : c_ = 0 := by omega
  obtain rfl : s_ = 0 := by omega
  obtain ⟨A_rw, f⟩ := P
  replace A_nx := LA_F1 A_nx f (by omega)
  replace A_ow := LA_F1 A_ow f (by omega)
  replace A_lt := LA_F1 A_lt f (by omega)
  replace S := ty_H_F1 S f (by omega)
  refine mi_wp_p (pc' := 82) (st' := [.ref rw]) rfl rfl rfl ?_
  refine mi_wp_p (pc' := 84) (st' := [.int (Int32.ofInt (k : Int)), .ref rw]) rfl rfl rfl ?_
  refine ls_cv rfl rfl rfl rfl rfl rfl (mi_cal_s2 (np := 2) (args := [.ref rw, .int (Int32.ofInt (k : Int))]) (rest := []) rfl rfl rfl (Or.inl rfl) rfl (Nat.le_of_ble_eq_true rfl) rfl rfl (Nat.le_of_ble_eq_true rfl)) (Nat.le_of_ble_eq_true rfl) (lw_puti (d := 81) (k := k) (by omega) A_rw (by first | omega | (simp only [List.length_append, List.length_cons, List.length_nil]; omega)) (by decide)) ?_
  intro hh27 c_ s_ hc_ hs_ P
  obtain rfl : c_ = 0 := by omega
  obtain rfl : s_ = 0 := by omega
  obtain ⟨A_rw, f⟩ := P
  replace A_nx := LA_F1 A_nx f (by omega)
  replace A_ow := LA_F1 A_ow f (by omega)
  replace A_lt := LA_F1 A_lt f (by omega)
  replace S := ty_H_F1 S f (by omega)
  refine mi_wp_p (pc' := 88) (st' := [.ref rw]) rfl rfl rfl ?_
  refine mi_s_lds (i := 32) rfl rfl rfl rfl rfl ?_
  refine ls_cv rfl rfl rfl rfl rfl rfl (mi_cal_s2 (np := 2) (args := [.ref rw, .retAddr 128]) (rest := []) rfl rfl rfl (Or.inl rfl) rfl (Nat.le_of_ble_eq_true rfl) rfl rfl (Nat.le_of_ble_eq_true rfl)) (Nat.le_of_ble_eq_true rfl) (lw_puts (d := 77) STR_32 A_rw (by first | omega | (simp only [List.length_append, List.length_cons, List.length_nil]; omega)) (by decide)) ?_
  intro hh28 c_ s_ hc_ hs_ P
  obtain rfl : c_ = 0 := by omega
  obtain rfl : s_ = 0 := by omega
  obtain ⟨A_rw, f⟩ := P
  replace A_nx := LA_F1 A_nx f (by omega)
  replace A_ow := LA_F1 A_ow f (by omega)
  replace A_lt := LA_F1 A_lt f (by omega)
  replace S := ty_H_F1 S f (by omega)
  refine mi_wp_p (pc' := 94) (st' := [.ref rw]) rfl rfl rfl ?_
  refine mi_wp_p (pc' := 96) (st' := [.ref ow, .ref rw]) rfl rfl rfl ?_
  refine mi_wp_p (pc' := 97) (st' := [.int (Int32.ofInt 1), .ref ow, .ref rw]) rfl rfl rfl ?_
  refine mi_wp_p (pc' := 98) (st' := [.int (Int32.ofInt 0), .int (Int32.ofInt 1), .ref ow, .ref rw]) rfl rfl rfl ?_
  refine mi_wp_p (pc' := 100) (st' := [.ref lt, .int (Int32.ofInt 0), .int (Int32.ofInt 1), .ref ow, .ref rw]) rfl rfl rfl ?_
  refine ls_cv rfl rfl rfl rfl rfl rfl (mi_cal_s2 (np := 5) (args := [.ref rw, .ref ow, .int (Int32.ofInt 1), .int (Int32.ofInt 0), .ref lt]) (rest := []) rfl rfl rfl (Or.inl rfl) rfl (Nat.le_of_ble_eq_true rfl) rfl rfl (Nat.le_of_ble_eq_true rfl)) (Nat.le_of_ble_eq_true rfl) (lw_show0 TLe (by omega) RXe A_rw A_ow A_lt (by first | omega | (simp only [List.length_append, List.length_cons, List.length_nil]; omega)) ⟨rfl, rfl, rfl⟩) ?_
  intro hh29 c1_ s1_ hc1_ hs1_ P
  obtain ⟨A_rw, f⟩ := P
  replace A_nx := LA_F1 A_nx f (by omega)
  replace A_ow := LA_F1 A_ow f (by omega)
  replace A_lt := LA_F1 A_lt f (by omega)
  replace S := ty_H_F1 S f (by omega)
  refine mi_wp_p (pc' := 104) (st' := [.ref rw]) rfl rfl rfl ?_
  refine mi_s_lds (i := 33) rfl rfl rfl rfl rfl ?_
  refine ls_cv rfl rfl rfl rfl rfl rfl (mi_cal_s2 (np := 2) (args := [.ref rw, .retAddr 132]) (rest := []) rfl rfl rfl (Or.inl rfl) rfl (Nat.le_of_ble_eq_true rfl) rfl rfl (Nat.le_of_ble_eq_true rfl)) (Nat.le_of_ble_eq_true rfl) (lw_puts (d := 77) STR_33 A_rw (by first | omega | (simp only [List.length_append, List.length_cons, List.length_nil]; omega)) (by decide)) ?_
  intro hh30 c_ s_ hc_ hs_ P
  obtain rfl : c_ = 0 := by omega
  obtain rfl : s_ = 0 := by omega
  obtain ⟨A_rw, f⟩ := P
  replace A_nx := LA_F1 A_nx f (by omega)
  replace A_ow := LA_F1 A_ow f (by omega)
  replace A_lt := LA_F1 A_lt f (by omega)
  replace S := ty_H_F1 S f (by omega)
  refine mi_wp_p (pc' := 110) (st' := [.ref rw]) rfl rfl rfl ?_
  refine mi_wp_p (pc' := 112) (st' := [.int (Int32.ofInt (k : Int)), .ref rw]) rfl rfl rfl ?_
  refine ls_cv rfl rfl rfl rfl rfl rfl (mi_cal_s2 (np := 2) (args := [.ref rw, .int (Int32.ofInt (k : Int))]) (rest := []) rfl rfl rfl (Or.inl rfl) rfl (Nat.le_of_ble_eq_true rfl) rfl rfl (Nat.le_of_ble_eq_true rfl)) (Nat.le_of_ble_eq_true rfl) (lw_puti (d := 81) (k := k) (by omega) A_rw (by first | omega | (simp only [List.length_append, List.length_cons, List.length_nil]; omega)) (by decide)) ?_
  intro hh31 c_ s_ hc_ hs_ P
  obtain rfl : c_ = 0 := by omega
  obtain rfl : s_ = 0 := by omega
  obtain ⟨A_rw, f⟩ := P
  replace A_nx := LA_F1 A_nx f (by omega)
  replace A_ow := LA_F1 A_ow f (by omega)
  replace A_lt := LA_F1 A_lt f (by omega)
  replace S := ty_H_F1 S f (by omega)
  refine mi_wp_p (pc' := 116) (st' := [.ref rw]) rfl rfl rfl ?_
  refine mi_s_lds (i := 34) rfl rfl rfl rfl rfl ?_
  refine ls_cv rfl rfl rfl rfl rfl rfl (mi_cal_s2 (np := 2) (args := [.ref rw, .retAddr 136]) (rest := []) rfl rfl rfl (Or.inl rfl) rfl (Nat.le_of_ble_eq_true rfl) rfl rfl (Nat.le_of_ble_eq_true rfl)) (Nat.le_of_ble_eq_true rfl) (lw_puts (d := 77) STR_34 A_rw (by first | omega | (simp only [List.length_append, List.length_cons, List.length_nil]; omega)) (by decide)) ?_
  intro hh32 c_ s_ hc_ hs_ P
  obtain rfl : c_ = 0 := by omega
  obtain rfl : s_ = 0 := by omega
  obtain ⟨A_rw, f⟩ := P
  replace A_nx := LA_F1 A_nx f (by omega)
  replace A_ow := LA_F1 A_ow f (by omega)
  replace A_lt := LA_F1 A_lt f (by omega)
  replace S := ty_H_F1 S f (by omega)
  refine mi_s_inc (l' := [(4, .int (Int32.ofInt ((k : Int) + 1))), (6, .ref lt), (5, .ref ow), (3, .ref nx), (2, .ref rw), (1, .ref 0), (0, .retAddr 3)]) rfl rfl rfl (by decide) rfl ?_
  refine mi_wp_p (pc' := 25) rfl rfl rfl ?_
  exact kk _ e ow lt gn2 _ _ TLe S A_rw A_nx (by omega) gn20 (by omega) (by omega)
end LW
