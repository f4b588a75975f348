/-! ===== the law's beginning and its first compile (printed by wip/gen/p_law8.py) ===== -/
theorem mi_wp_new {X : mi_X} {d : Nat} {M : mi_M} {pc c s : Nat} {l : mi_L} {st : List Value} {h : mi_H} {Q : mi_Z → Prop} {idx ci k : Nat} {q : vw_C} (ht : mi_lk (mi_th M) pc = none) (hi : mi_lk (mi_cd M) pc = some (.new idx, 3)) (hk : mi_lk (mi_kl (mi_ow M)) idx = some ci) (hq : mi_cl[ci]? = some q) (hl : h.length = k) (kk : mi_wp X d M (pc + 3) l (.ref k :: st) (h ++ [mi_fresh ci]) (c + 1) (s + q.2.2) Q) : mi_wp X d M pc l st h c s Q := by
  subst hl
  refine mi_wp_m ht hi rfl (by unfold mi_ret; rfl) rfl ?_ kk
  show mi_new (mi_ow M) idx (pc + 3) st h c s = _
  unfold mi_new mi_fresh
  simp only [hk, hq]
theorem LT_G {h h' : mi_H} {a n : Nat} {bs : List Int} (A : LT h a n bs) (f : LG h h' []) (ha : 55 ≤ a) : LT h' a n bs := by
  obtain ⟨g, A, r⟩ := A
  exact ⟨g, LA_G A f ha (by simp), r⟩
section LW
variable {X : mi_X} {h : mi_H} {σ : mi_Sg}
theorem law_a1 {c s : Nat} {Q : mi_Z → Prop} (S : ty_H h σ)
    (kk : ∀ h' rw nx, ty_H h' σ → LT h' rw 1200 [] → LA h' nx 1 (va_up (fun _ => 0) (0 : Int).toNat 0) → 55 ≤ rw → 55 ≤ nx → rw ≠ nx → mi_wp X 82 mi_ML 25 [(4, .int (Int32.ofInt 0)), (3, .ref nx), (2, .ref rw), (1, .ref 0), (0, .retAddr 3)] [] h' (c + 1 + 1) (s + 1200 + 1) Q) : mi_wp X 82 mi_ML 7 [(0, .retAddr 3)] [.ref 0] h c s Q := by
  refine mi_wp_p (pc' := 8) (l' := [(1, .ref 0), (0, .retAddr 3)]) (st' := []) rfl rfl rfl ?_
  refine mi_s_k (pc' := 11) (e := 1200) rfl rfl rfl (by decide +kernel) ?_
  have l55_rw := ty_H_55 S
  refine ls_new rfl rfl (by omega) (by omega) ?_
  intro h1_ rw e_rw A_rw f e2_rw
  clear e2_rw
  have b55_rw : 55 ≤ rw := by omega
  replace S := ty_H_F0 S f
  refine mi_wp_p (pc' := 14) (l' := [(2, .ref rw), (1, .ref 0), (0, .retAddr 3)]) (st' := []) rfl rfl rfl ?_
  refine mi_wp_p (pc' := 15) (st' := [.int (Int32.ofInt 1)]) rfl rfl rfl ?_
  have l55_nx := ty_H_55 S
  refine ls_new rfl rfl (by omega) (by omega) ?_
  intro h2_ nx e_nx A_nx f e2_nx
  clear e2_nx
  have b55_nx : 55 ≤ nx := by omega
  have ne_rw_nx : rw ≠ nx := by have := LA_lt A_rw; omega
  replace A_rw := LA_F0 A_rw f
  replace S := ty_H_F0 S f
  refine mi_wp_p (pc' := 18) (st' := [.ref nx, .ref nx]) rfl rfl rfl ?_
  refine mi_wp_p (pc' := 19) (st' := [.int (Int32.ofInt 0), .ref nx, .ref nx]) rfl rfl rfl ?_
  refine mi_wp_p (pc' := 20) (st' := [.int (Int32.ofInt 0), .int (Int32.ofInt 0), .ref nx, .ref nx]) rfl rfl rfl ?_
  refine ls_ast A_nx rfl rfl (by omega) (by omega) (by omega) ?_
  intro h3_ A_nx f
  replace A_rw := LA_F1 A_rw f (by omega)
  replace S := ty_H_F1 S f (by omega)
  refine mi_wp_p (pc' := 22) (l' := [(3, .ref nx), (2, .ref rw), (1, .ref 0), (0, .retAddr 3)]) (st' := []) rfl rfl rfl ?_
  refine mi_wp_p (pc' := 23) (st' := [.int (Int32.ofInt 0)]) rfl rfl rfl ?_
  refine mi_wp_p (pc' := 25) (l' := [(4, .int (Int32.ofInt 0)), (3, .ref nx), (2, .ref rw), (1, .ref 0), (0, .retAddr 3)]) (st' := []) rfl rfl rfl ?_
  exact kk _ rw nx S (LT_0 A_rw) A_nx b55_rw b55_nx (by omega)
theorem law_c1 {rw nx o5 o6 c s : Nat} {bs tx : List Int} {P : mi_Sg → Prop} {Q : mi_Z → Prop} (S : ty_H h σ) (A_rw : LT h rw 1200 bs) (rw55 : 55 ≤ rw) (hl : bs.length ≤ 1000) (etx : bs ++ [100, 101, 102, 32, 101, 32, 61, 32, 40, 100, 48, 44, 32, 100, 49, 41, 59, 32, 100, 101, 102, 32, 105, 32, 61, 32, 102, 117, 110, 32, 120, 32, 45, 62, 32, 100, 50, 59, 32, 100, 101, 102, 32, 117, 32, 61, 32, 108, 101, 116, 32, 118, 32, 61, 32, 100, 48, 32, 105, 110, 32, 40, 118, 44, 32, 118, 41, 59] = tx) (ht : tx.length ≤ 1100) (ht0 : 0 < tx.length) (htb : ∀ b ∈ tx, 0 ≤ b ∧ b < 128) (s0 : mi_sF σ 0 10 = 0)
    (cmp : ∀ σ1, LYQ σ tx σ1 → ty_Ci X 81 mi_M5 [(0, .ref 0)] σ1 (fun x σ2 => x = 0 ∧ mi_sF σ2 17 14 = 6 ∧ P σ2))
    (kk : ∀ h' σ2 c' s', ty_H h' σ2 → P σ2 → LT h' rw 1200 tx → c' ≤ c + 60 → s' ≤ s + 300 → mi_wp X 82 mi_ML 160 [(4, .int (Int32.ofInt 3)), (6, .ref o6), (5, .ref o5), (3, .ref nx), (2, .ref rw), (1, .ref 0), (0, .retAddr 3)] [] h' c' s' Q) : mi_wp X 82 mi_ML 25 [(4, .int (Int32.ofInt 3)), (6, .ref o6), (5, .ref o5), (3, .ref nx), (2, .ref rw), (1, .ref 0), (0, .retAddr 3)] [] h c s Q := by
  refine mi_wp_p (pc' := 27) (st' := [.int (Int32.ofInt 3)]) rfl rfl rfl ?_
  refine mi_wp_p (pc' := 28) (st' := [.int (Int32.ofInt 3), .int (Int32.ofInt 3)]) rfl rfl rfl ?_
  refine mi_s_if2 (t := 127) rfl rfl rfl (by unfold mi_R; omega) (by unfold mi_R; omega) (fun _ => ?_) (fun hc_ => absurd (show 3 ≤ (3 : Int) by omega) hc_)
  refine mi_wp_p (pc' := 128) (st' := [.ref rw]) rfl rfl rfl ?_
  refine mi_s_lds (i := 35) rfl rfl rfl rfl rfl ?_
  refine ls_cv rfl rfl rfl rfl rfl rfl (mi_cal_s2 (np := 2) (args := [.ref rw, .retAddr 140]) (rest := []) rfl rfl rfl (Or.inl rfl) rfl (Nat.le_of_ble_eq_true rfl) rfl rfl (Nat.le_of_ble_eq_true rfl)) (Nat.le_of_ble_eq_true rfl) (lw_puts (d := 77) STR_35 A_rw (by simp only [List.length_cons, List.length_nil]; omega) (by decide)) ?_
  intro hh4 c_ s_ hc_ hs_ P
  obtain rfl : c_ = 0 := by omega
  obtain rfl : s_ = 0 := by omega
  obtain ⟨A_rw, f⟩ := P
  replace S := ty_H_F1 S f (by omega)
  replace A_rw := LT_e A_rw etx
  refine mi_wp_p (pc' := 134) (st' := [.ref 0]) rfl rfl rfl ?_
  refine mi_wp_p (pc' := 135) (st' := [.ref rw, .ref 0]) rfl rfl rfl ?_
  refine ls_ci rfl rfl rfl rfl rfl rfl (mi_cal_s2 (np := 2) (args := [.ref 0, .ref rw]) (rest := []) rfl rfl rfl (Or.inl rfl) rfl (Nat.le_of_ble_eq_true rfl) rfl rfl (Nat.le_of_ble_eq_true rfl)) (Nat.le_of_ble_eq_true rfl) (lw_lay (d := 78) S A_rw rw55 (by decide) (by omega) ht0 htb s0) ?_
  intro x hh5 c1_ s1_ hc1_ hs1_ P
  obtain ⟨P, f, σ1, S1, Q1⟩ := P
  replace A_rw := LT_G A_rw f rw55
  rw [P]
  clear P S
  have S := S1
  clear S1
  refine mi_s_if1 (t := 158) rfl rfl rfl (by unfold mi_R; omega) (fun hc_ => absurd (show (1 : Int) = 0 from hc_) (by omega)) (fun _ => ?_)
  refine mi_wp_p (pc' := 142) (st' := [.ref 0]) rfl rfl rfl ?_
  refine ls_ti rfl rfl rfl rfl rfl rfl (mi_cal_v2 (np := 0) (args := [.ref 0]) (rest := []) rfl rfl rfl rfl rfl (Nat.le_of_ble_eq_true rfl) rfl rfl (Nat.le_of_ble_eq_true rfl) (ty_rcS S (List.mem_of_getElem? (i := 0) rfl))) (Nat.le_of_ble_eq_true rfl) S (cmp σ1 Q1) ?_
  intro x hh6 σ2 S f P
  obtain ⟨P, P6, PP⟩ := P
  replace A_rw := LT_M A_rw f rw55
  rw [P]
  clear P
  refine mi_s_if1 (t := 158) rfl rfl rfl (by unfold mi_R; omega) (fun hc_ => absurd (show (0 : Int) ≠ 0 from hc_) (by omega)) (fun _ => ?_)
  refine mi_wp_p (pc' := 149) (st' := [.ref 0]) rfl rfl rfl ?_
  refine mi_wp_p (pc' := 150) (st' := [.int (Int32.ofInt 2), .ref 0]) rfl rfl rfl ?_
  refine ls_ti rfl rfl rfl rfl rfl rfl (mi_cal_v2 (np := 1) (args := [.ref 0, .int (Int32.ofInt 2)]) (rest := []) rfl rfl rfl rfl rfl (Nat.le_of_ble_eq_true rfl) rfl rfl (Nat.le_of_ble_eq_true rfl) (ty_rcS S (List.mem_of_getElem? (i := 0) rfl))) (Nat.le_of_ble_eq_true rfl) S tl_count2 ?_
  intro x hh7 σ3 S f P
  obtain ⟨P, P2⟩ := P
  rw [P2] at S
  replace A_rw := LT_M A_rw f rw55
  rw [P, P6]
  clear P P2
  refine mi_s_k (pc' := 155) (e := 6) rfl rfl rfl (by decide +kernel) ?_
  refine mi_s_if2 (t := 160) rfl rfl rfl (by unfold mi_R; omega) (by unfold mi_R; omega) (fun _ => ?_) (fun hc_ => absurd (show (6 : Int) = 6 by omega) hc_)
  exact kk _ σ2 _ _ S PP A_rw (by omega) (by omega)
/-- the law from its entry to its loop -/
theorem law_a {Q : mi_Z → Prop}
    (kk : ∀ h' σ rw nx c s, ty_H h' σ → BB σ → BC σ → mi_sF σ 0 10 = 0 → mi_sF σ 9 11 = 0 → LT h' rw 1200 [] → LA h' nx 1 (va_up (fun _ => 0) (0 : Int).toNat 0) → 55 ≤ rw → 55 ≤ nx → rw ≠ nx → c ≤ 63 → s ≤ 26300 → mi_wp X 82 mi_ML 25 [(4, .int (Int32.ofInt 0)), (3, .ref nx), (2, .ref rw), (1, .ref 0), (0, .retAddr 3)] [] h' c s Q) : mi_wp X 82 mi_ML 0 [(0, .retAddr 3)] [] [] 0 0 Q := by
  obtain ⟨h1, c1, s1, e, l1, hc, hs, S, B, C, s0, r0⟩ := law_init
  have k0 : mi_wp X 81 mi_M0 0 [(0, .ref 0)] [] ([] ++ [mi_fresh 10]) 0 0 (fun z => z = (.inl none, h1, c1, s1)) := mi_wp_run (Or.inl rfl) (n := 9000) e rfl
  refine mi_wp_new rfl rfl rfl rfl rfl ?_
  refine mi_wp_p (pc' := 4) rfl rfl rfl ?_
  refine mi_wp_c1 rfl rfl rfl rfl rfl rfl rfl (Nat.le_of_ble_eq_true rfl) k0 ?_
  refine law_a1 S (fun h' rw nx S' A B' b1 b2 ne => kk h' _ rw nx _ _ S' B C s0 r0 A B' b1 b2 ne (by omega) ?_)
  have e11 : ∀ n : Nat, n ≤ 11 → 0 + n + s1 + 1200 + 1 ≤ 26300 := fun n hn => by omega
  exact e11 _ (by decide)
end LW
