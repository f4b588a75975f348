/-! ===== the law's outer loop, its sums (printed by wip/gen/p_law11.py) ===== -/
section LW
variable {X : mi_X} {h : mi_H} {σ : mi_Sg} {ds : List (Int64 × tr)}
theorem tok_6 {a : Nat} (h : a < 6) : tokK (a + 1) = 13 ∧ (tokB (a + 1)).length ≤ 10 := by
  obtain rfl | rfl | rfl | rfl | rfl | rfl : a = 0 ∨ a = 1 ∨ a = 2 ∨ a = 3 ∨ a = 4 ∨ a = 5 := by omega
  all_goals exact ⟨rfl, by decide⟩
def ALL6 (ds : List (Int64 × tr)) : Prop := ∀ b, b < 6 → ∃ t, ds[b]? = some (tokY (b + 1), t) ∧ DT t
theorem LT_G1 {h h' : mi_H} {a b n : Nat} {bs : List Int} (A : LT h a n bs) (f : LG h h' [b]) (ha : 55 ≤ a) (hn : a ≠ b) : LT h' a n bs := by
  obtain ⟨g, A, r⟩ := A
  exact ⟨g, LA_G A f ha (by simpa using hn), r⟩
theorem law_turn0 {o5 o6 rw nx a : Nat} {bs : List Int} {r : Int} {c s : Nat} {Q : mi_Z → Prop} (hd : ds.length ≤ 24) (hall : ALL6 ds) (ha6 : a < 6) (S : ty_H h σ) (I : IV σ ds r) (U : US σ) (hr : r ≤ 97000000) (A_rw : LT h rw 1200 bs) (b55_rw : 55 ≤ rw)
    (kk : ∀ h' σ' o6 o7 l5 l9 c' s', ty_H h' σ' → IV σ' ds (r + 160) → US σ' → LT h' rw 1200 bs → c' ≤ c + 80 → s' ≤ s + 1800 → mi_wp X 82 mi_ML 163 [(4, .int (Int32.ofInt ((a : Int) + 1))), (8, .int (Int32.ofInt 6)), (9, .int (Int32.ofInt l9)), (7, .ref o7), (6, .ref o6), (5, .int (Int32.ofInt l5)), (3, .ref nx), (2, .ref rw), (1, .ref 0), (0, .retAddr 3)] [] h' c' s' Q) : mi_wp X 82 mi_ML 163 [(4, .int (Int32.ofInt (a : Int))), (6, .ref o6), (5, .ref o5), (3, .ref nx), (2, .ref rw), (1, .ref 0), (0, .retAddr 3)] [] h c s Q := by
  obtain ⟨t, ha, dt⟩ := hall a ha6
  have hd1 : ∀ (j : Nat) (q : Int64 × tr), j < a → ds[j]? = some q → q.1 ≠ tokY (a + 1) := fun j q hj hq => by
    obtain ⟨t', h', -⟩ := hall j (by omega)
    rw [h'] at hq
    cases hq
    exact tokY_ne ha6 hj
  have hl : (txt t).length ≤ 400 := by have := txt_wl t; have := dt.2.1; omega
  refine body_a0 S I U (by omega) hd ha ha6 dt hd1 A_rw b55_rw (fun h1 σ1 tx S1 I1 U1 p1 A1 b1 ne1 R1 => ?_)
  rw [Int.toNat_natCast] at A1
  refine rd_loop0 (l := txt t) b1 hl p1 (fun h2 S2 A2 f2 => ?_) (txt t).length 0 (by omega) h1 _ S1 A1 (LG_rf _ _) (fun i b hi hb => by omega)
  have R2 := LT_G1 R1 f2 b55_rw ne1
  obtain ⟨k13, k10⟩ := tok_6 ha6
  refine body_b0 S2 I1 U1 (by omega) hd ha ha6 dt hd1 (fun _ => k13) (fun _ => k10) A2 b1 R2 b55_rw (fun h3 σ3 nm c3 s3 S3 I3 U3 A3 R3 hc3 hs3 => ?_)
  refine in_firstA hd hall ha ha6 dt b1 b55_rw _ (by omega) S3 I3 U3 A3 R3 (fun h4 σ4 l9' c4 s4 S4 I4 U4 R4 hc4 hs4 => ?_)
  exact kk h4 σ4 _ _ _ l9' c4 s4 S4 (IV_mono I4 (by omega)) U4 R4 (by omega) (by rw [Int.toNat_natCast] at hs3; omega)
theorem law_turn1 {o6 o7 rw nx a : Nat} {l5 l9 : Int} {bs : List Int} {r : Int} {c s : Nat} {Q : mi_Z → Prop} (hd : ds.length ≤ 24) (hall : ALL6 ds) (ha6 : a < 6) (S : ty_H h σ) (I : IV σ ds r) (U : US σ) (hr : r ≤ 97000000) (A_rw : LT h rw 1200 bs) (b55_rw : 55 ≤ rw)
    (kk : ∀ h' σ' o6 o7 l5 l9 c' s', ty_H h' σ' → IV σ' ds (r + 160) → US σ' → LT h' rw 1200 bs → c' ≤ c + 80 → s' ≤ s + 1800 → mi_wp X 82 mi_ML 163 [(4, .int (Int32.ofInt ((a : Int) + 1))), (8, .int (Int32.ofInt 6)), (9, .int (Int32.ofInt l9)), (7, .ref o7), (6, .ref o6), (5, .int (Int32.ofInt l5)), (3, .ref nx), (2, .ref rw), (1, .ref 0), (0, .retAddr 3)] [] h' c' s' Q) : mi_wp X 82 mi_ML 163 [(4, .int (Int32.ofInt (a : Int))), (8, .int (Int32.ofInt 6)), (9, .int (Int32.ofInt l9)), (7, .ref o7), (6, .ref o6), (5, .int (Int32.ofInt l5)), (3, .ref nx), (2, .ref rw), (1, .ref 0), (0, .retAddr 3)] [] h c s Q := by
  obtain ⟨t, ha, dt⟩ := hall a ha6
  have hd1 : ∀ (j : Nat) (q : Int64 × tr), j < a → ds[j]? = some q → q.1 ≠ tokY (a + 1) := fun j q hj hq => by
    obtain ⟨t', h', -⟩ := hall j (by omega)
    rw [h'] at hq
    cases hq
    exact tokY_ne ha6 hj
  have hl : (txt t).length ≤ 400 := by have := txt_wl t; have := dt.2.1; omega
  refine body_a1 S I U (by omega) hd ha ha6 dt hd1 A_rw b55_rw (fun h1 σ1 tx S1 I1 U1 p1 A1 b1 ne1 R1 => ?_)
  rw [Int.toNat_natCast] at A1
  refine rd_loop1 (l := txt t) b1 hl p1 (fun h2 S2 A2 f2 => ?_) (txt t).length 0 (by omega) h1 _ S1 A1 (LG_rf _ _) (fun i b hi hb => by omega)
  have R2 := LT_G1 R1 f2 b55_rw ne1
  obtain ⟨k13, k10⟩ := tok_6 ha6
  refine body_b1 S2 I1 U1 (by omega) hd ha ha6 dt hd1 (fun _ => k13) (fun _ => k10) A2 b1 R2 b55_rw (fun h3 σ3 nm c3 s3 S3 I3 U3 A3 R3 hc3 hs3 => ?_)
  refine in_firstB hd hall ha ha6 dt b1 b55_rw _ (by omega) S3 I3 U3 A3 R3 (fun h4 σ4 l9' c4 s4 S4 I4 U4 R4 hc4 hs4 => ?_)
  exact kk h4 σ4 _ _ _ l9' c4 s4 S4 (IV_mono I4 (by omega)) U4 R4 (by omega) (by rw [Int.toNat_natCast] at hs3; omega)
set_option maxRecDepth 100000 in
theorem law_loop {rw nx : Nat} {bs : List Int} {cc ss : Nat} {Q : mi_Z → Prop} (hd : ds.length ≤ 24) (hall : ALL6 ds) (b55_rw : 55 ≤ rw) (r0 : Int) (hr0 : r0 ≤ 90000000)
    (kk : ∀ h' σ' o6 o7 l5 l9 c' s', ty_H h' σ' → IV σ' ds (r0 + 960) → US σ' → LT h' rw 1200 bs → c' ≤ cc + 480 → s' ≤ ss + 10800 → mi_wp X 82 mi_ML 163 [(4, .int (Int32.ofInt 6)), (8, .int (Int32.ofInt 6)), (9, .int (Int32.ofInt l9)), (7, .ref o7), (6, .ref o6), (5, .int (Int32.ofInt l5)), (3, .ref nx), (2, .ref rw), (1, .ref 0), (0, .retAddr 3)] [] h' c' s' Q) : ∀ (m a : Nat), m + a = 6 → ∀ (h : mi_H) (σ : mi_Sg) (o6 o7 : Nat) (l5 l9 : Int) (c s : Nat), ty_H h σ → IV σ ds (r0 + 160 * a) → US σ → LT h rw 1200 bs → c ≤ cc + 80 * a → s ≤ ss + 1800 * a → mi_wp X 82 mi_ML 163 [(4, .int (Int32.ofInt (a : Int))), (8, .int (Int32.ofInt 6)), (9, .int (Int32.ofInt l9)), (7, .ref o7), (6, .ref o6), (5, .int (Int32.ofInt l5)), (3, .ref nx), (2, .ref rw), (1, .ref 0), (0, .retAddr 3)] [] h c s Q := by
  intro m
  induction m with
  | zero =>
    intro a ha h σ o6 o7 l5 l9 c s S I U R hc hs
    obtain rfl : a = 6 := by omega
    exact kk h σ o6 o7 l5 l9 c s S (IV_mono I (by omega)) U R (by omega) (by omega)
  | succ m ih =>
    intro a ha h σ o6 o7 l5 l9 c s S I U R hc hs
    refine law_turn1 hd hall (by omega) S I U (by omega) R b55_rw (fun h' σ' o6' o7' l5' l9' c' s' S' I' U' R' hc' hs' => ?_)
    rw [show (a : Int) + 1 = ((a + 1 : Nat) : Int) by omega]
    exact ih (a + 1) (by omega) h' σ' o6' o7' l5' l9' c' s' S' (IV_mono I' (by omega)) U' R' (by omega) (by omega)
set_option maxRecDepth 100000 in
theorem law_d {rw nx o5 o6 : Nat} {bs : List Int} {c s : Nat} {Q : mi_Z → Prop} {r : Int} (hd : ds.length ≤ 24) (hall : ALL6 ds) (S : ty_H h σ) (I : IV σ ds r) (U : US σ) (hr : r ≤ 1000000) (A_rw : LT h rw 1200 bs) (b55_rw : 55 ≤ rw)
    (kk : ∀ h' σ' o6 o7 l5 l9 c' s', ty_H h' σ' → IV σ' ds (r + 960) → US σ' → LT h' rw 1200 bs → c' ≤ c + 480 → s' ≤ s + 10800 → mi_wp X 82 mi_ML 163 [(4, .int (Int32.ofInt 6)), (8, .int (Int32.ofInt 6)), (9, .int (Int32.ofInt l9)), (7, .ref o7), (6, .ref o6), (5, .int (Int32.ofInt l5)), (3, .ref nx), (2, .ref rw), (1, .ref 0), (0, .retAddr 3)] [] h' c' s' Q) : mi_wp X 82 mi_ML 160 [(4, .int (Int32.ofInt 3)), (6, .ref o6), (5, .ref o5), (3, .ref nx), (2, .ref rw), (1, .ref 0), (0, .retAddr 3)] [] h c s Q := by
  refine mi_wp_p (pc' := 161) (st' := [.int (Int32.ofInt 0)]) rfl rfl rfl ?_
  refine mi_wp_p (pc' := 163) (l' := [(4, .int (Int32.ofInt ((0 : Nat) : Int))), (6, .ref o6), (5, .ref o5), (3, .ref nx), (2, .ref rw), (1, .ref 0), (0, .retAddr 3)]) (st' := []) rfl rfl rfl ?_
  refine law_turn0 hd hall (by decide) S I U (by omega) A_rw b55_rw (fun h' σ' o6' o7' l5' l9' c' s' S' I' U' R' hc' hs' => ?_)
  exact law_loop (cc := c) (ss := s) hd hall b55_rw r (by omega) kk 5 1 rfl h' σ' o6' o7' l5' l9' c' s' S' (IV_mono I' (by omega)) U' R' (by omega) (by omega)
set_option maxRecDepth 100000 in
set_option maxHeartbeats 1000000 in
theorem law_e {rw nx o6 o7 : Nat} {l5 l9 : Int} {bs : List Int} {c s : Nat} {Q : mi_Z → Prop} {r : Int} {t0 t1 t2 t3 t4 t5 : tr} (S : ty_H h σ) (I : IV σ ds r) (U : US σ) (hr : r ≤ 2000000) (A_rw : LT h rw 1200 bs) (b55_rw : 55 ≤ rw) (hd6 : ds.length = 6) (h0 : ds[0]? = some (tokY 1, t0)) (h1 : ds[1]? = some (tokY 2, t1)) (h2 : ds[2]? = some (tokY 3, t2)) (h3 : ds[3]? = some (tokY 4, t3)) (h4 : ds[4]? = some (tokY 5, t4)) (h5 : ds[5]? = some (tokY 6, t5)) (hp : pz t0 ≤ 35 ∧ pz t1 ≤ 35 ∧ pz t2 ≤ 35 ∧ pz t3 ≤ 35 ∧ pz t4 ≤ 35 ∧ pz t5 ≤ 35) (hn : nv t0 ≤ 13 ∧ nv t1 ≤ 13 ∧ nv t2 ≤ 13 ∧ nv t3 ≤ 13 ∧ nv t4 ≤ 13 ∧ nv t5 ≤ 13) (hs : pz t3 = 1 + pz t0 + pz t1 ∧ pz t4 = 2 + pz t2 ∧ pz t5 = 1 + 2 * pz t0) (hm : nv t4 = 1 + nv t2 ∧ nv t5 = 2 * nv t0)
    (kk : ∀ h' σ', ty_H h' σ' → IV σ' ds (r + 20) → LT h' rw 1200 bs → mi_wp X 82 mi_ML 579 [(4, .int (Int32.ofInt 6)), (8, .int (Int32.ofInt 6)), (9, .int (Int32.ofInt l9)), (7, .ref o7), (6, .ref o6), (5, .int (Int32.ofInt l5)), (3, .ref nx), (2, .ref rw), (1, .ref 0), (0, .retAddr 3)] [] h' c s Q) : mi_wp X 82 mi_ML 163 [(4, .int (Int32.ofInt 6)), (8, .int (Int32.ofInt 6)), (9, .int (Int32.ofInt l9)), (7, .ref o7), (6, .ref o6), (5, .int (Int32.ofInt l5)), (3, .ref nx), (2, .ref rw), (1, .ref 0), (0, .retAddr 3)] [] h c s Q := by
  have hd : ds.length ≤ 24 := by omega
  have q0 := pz_0 t0
  have q1 := pz_0 t1
  have q2 := pz_0 t2
  have w0 : 0 ≤ nv t0 := Int.natCast_nonneg _
  have w2 : 0 ≤ nv t2 := Int.natCast_nonneg _
  refine mi_wp_p (pc' := 165) (st' := [.int (Int32.ofInt 6)]) rfl rfl rfl ?_
  refine mi_s_k (pc' := 167) (e := 6) rfl rfl rfl (by decide +kernel) ?_
  refine mi_s_if2 (t := 452) rfl rfl rfl (by unfold mi_R; omega) (by unfold mi_R; omega) (fun _ => ?_) (fun hc_ => absurd (show 6 ≤ (6 : Int) by omega) hc_)
  refine mi_wp_p (pc' := 453) (st' := [.ref 0]) rfl rfl rfl ?_
  refine mi_wp_p (pc' := 454) (st' := [.int (Int32.ofInt 3), .ref 0]) rfl rfl rfl ?_
  refine mi_wp_p (pc' := 455) (st' := [.int (Int32.ofInt 0), .int (Int32.ofInt 3), .ref 0]) rfl rfl rfl ?_
  refine ls_ti rfl rfl rfl rfl rfl rfl (mi_cal_v2 (np := 2) (args := [.ref 0, .int (Int32.ofInt 3), .int (Int32.ofInt 0)]) (rest := []) rfl rfl rfl rfl rfl (Nat.le_of_ble_eq_true rfl) rfl rfl (Nat.le_of_ble_eq_true rfl) (ty_rcS S (List.mem_of_getElem? (i := 0) rfl))) (Nat.le_of_ble_eq_true rfl) S (iv_parts (d := 1) (a := 3) I (by omega) hd h3 (by omega)) ?_
  intro x hh1 σ1 S f P
  obtain ⟨P, QQ, -⟩ := P
  replace I := QQ.1
  replace U := QQ.2 U
  clear QQ
  replace A_rw := LT_M A_rw f b55_rw
  rw [P]
  clear P
  refine mi_wp_p (pc' := 459) (st' := [.int (Int32.ofInt 1), .int (Int32.ofInt (pz t3))]) rfl rfl rfl ?_
  refine mi_wp_p (pc' := 460) (st' := [.ref 0, .int (Int32.ofInt 1), .int (Int32.ofInt (pz t3))]) rfl rfl rfl ?_
  refine mi_wp_p (pc' := 461) (st' := [.int (Int32.ofInt 0), .ref 0, .int (Int32.ofInt 1), .int (Int32.ofInt (pz t3))]) rfl rfl rfl ?_
  refine mi_wp_p (pc' := 462) (st' := [.int (Int32.ofInt 0), .int (Int32.ofInt 0), .ref 0, .int (Int32.ofInt 1), .int (Int32.ofInt (pz t3))]) rfl rfl rfl ?_
  refine ls_ti rfl rfl rfl rfl rfl rfl (mi_cal_v2 (np := 2) (args := [.ref 0, .int (Int32.ofInt 0), .int (Int32.ofInt 0)]) (rest := [.int (Int32.ofInt 1), .int (Int32.ofInt (pz t3))]) rfl rfl rfl rfl rfl (Nat.le_of_ble_eq_true rfl) rfl rfl (Nat.le_of_ble_eq_true rfl) (ty_rcS S (List.mem_of_getElem? (i := 0) rfl))) (Nat.le_of_ble_eq_true rfl) S (iv_parts (d := 1) (a := 0) I (by omega) hd h0 (by omega)) ?_
  intro x hh2 σ2 S f P
  obtain ⟨P, QQ, -⟩ := P
  replace I := QQ.1
  replace U := QQ.2 U
  clear QQ
  replace A_rw := LT_M A_rw f b55_rw
  rw [P]
  clear P
  refine mi_s_add rfl rfl ?_
  refine mi_wp_p (pc' := 467) (st' := [.ref 0, .int (Int32.ofInt (1 + (pz t0))), .int (Int32.ofInt (pz t3))]) rfl rfl rfl ?_
  refine mi_wp_p (pc' := 468) (st' := [.int (Int32.ofInt 1), .ref 0, .int (Int32.ofInt (1 + (pz t0))), .int (Int32.ofInt (pz t3))]) rfl rfl rfl ?_
  refine mi_wp_p (pc' := 469) (st' := [.int (Int32.ofInt 0), .int (Int32.ofInt 1), .ref 0, .int (Int32.ofInt (1 + (pz t0))), .int (Int32.ofInt (pz t3))]) rfl rfl rfl ?_
  refine ls_ti rfl rfl rfl rfl rfl rfl (mi_cal_v2 (np := 2) (args := [.ref 0, .int (Int32.ofInt 1), .int (Int32.ofInt 0)]) (rest := [.int (Int32.ofInt (1 + (pz t0))), .int (Int32.ofInt (pz t3))]) rfl rfl rfl rfl rfl (Nat.le_of_ble_eq_true rfl) rfl rfl (Nat.le_of_ble_eq_true rfl) (ty_rcS S (List.mem_of_getElem? (i := 0) rfl))) (Nat.le_of_ble_eq_true rfl) S (iv_parts (d := 1) (a := 1) I (by omega) hd h1 (by omega)) ?_
  intro x hh3 σ3 S f P
  obtain ⟨P, QQ, -⟩ := P
  replace I := QQ.1
  replace U := QQ.2 U
  clear QQ
  replace A_rw := LT_M A_rw f b55_rw
  rw [P]
  clear P
  refine mi_s_add rfl rfl ?_
  refine mi_s_if2 (t := 512) rfl rfl rfl (by unfold mi_R; omega) (by unfold mi_R; omega) (fun hc_ => absurd (show (pz t3) ≠ ((1 + (pz t0)) + (pz t1)) from hc_) (by omega)) (fun _ => ?_)
  refine mi_wp_p (pc' := 477) (st' := [.ref 0]) rfl rfl rfl ?_
  refine mi_wp_p (pc' := 478) (st' := [.int (Int32.ofInt 4), .ref 0]) rfl rfl rfl ?_
  refine mi_wp_p (pc' := 479) (st' := [.int (Int32.ofInt 0), .int (Int32.ofInt 4), .ref 0]) rfl rfl rfl ?_
  refine ls_ti rfl rfl rfl rfl rfl rfl (mi_cal_v2 (np := 2) (args := [.ref 0, .int (Int32.ofInt 4), .int (Int32.ofInt 0)]) (rest := []) rfl rfl rfl rfl rfl (Nat.le_of_ble_eq_true rfl) rfl rfl (Nat.le_of_ble_eq_true rfl) (ty_rcS S (List.mem_of_getElem? (i := 0) rfl))) (Nat.le_of_ble_eq_true rfl) S (iv_parts (d := 1) (a := 4) I (by omega) hd h4 (by omega)) ?_
  intro x hh4 σ4 S f P
  obtain ⟨P, QQ, -⟩ := P
  replace I := QQ.1
  replace U := QQ.2 U
  clear QQ
  replace A_rw := LT_M A_rw f b55_rw
  rw [P]
  clear P
  refine mi_wp_p (pc' := 483) (st' := [.int (Int32.ofInt 2), .int (Int32.ofInt (pz t4))]) rfl rfl rfl ?_
  refine mi_wp_p (pc' := 484) (st' := [.ref 0, .int (Int32.ofInt 2), .int (Int32.ofInt (pz t4))]) rfl rfl rfl ?_
  refine mi_wp_p (pc' := 485) (st' := [.int (Int32.ofInt 2), .ref 0, .int (Int32.ofInt 2), .int (Int32.ofInt (pz t4))]) rfl rfl rfl ?_
  refine mi_wp_p (pc' := 486) (st' := [.int (Int32.ofInt 0), .int (Int32.ofInt 2), .ref 0, .int (Int32.ofInt 2), .int (Int32.ofInt (pz t4))]) rfl rfl rfl ?_
  refine ls_ti rfl rfl rfl rfl rfl rfl (mi_cal_v2 (np := 2) (args := [.ref 0, .int (Int32.ofInt 2), .int (Int32.ofInt 0)]) (rest := [.int (Int32.ofInt 2), .int (Int32.ofInt (pz t4))]) rfl rfl rfl rfl rfl (Nat.le_of_ble_eq_true rfl) rfl rfl (Nat.le_of_ble_eq_true rfl) (ty_rcS S (List.mem_of_getElem? (i := 0) rfl))) (Nat.le_of_ble_eq_true rfl) S (iv_parts (d := 1) (a := 2) I (by omega) hd h2 (by omega)) ?_
  intro x hh5 σ5 S f P
  obtain ⟨P, QQ, -⟩ := P
  replace I := QQ.1
  replace U := QQ.2 U
  clear QQ
  replace A_rw := LT_M A_rw f b55_rw
  rw [P]
  clear P
  refine mi_s_add rfl rfl ?_
  refine mi_s_if2 (t := 512) rfl rfl rfl (by unfold mi_R; omega) (by unfold mi_R; omega) (fun hc_ => absurd (show (pz t4) ≠ (2 + (pz t2)) from hc_) (by omega)) (fun _ => ?_)
  refine mi_wp_p (pc' := 494) (st' := [.ref 0]) rfl rfl rfl ?_
  refine mi_wp_p (pc' := 495) (st' := [.int (Int32.ofInt 5), .ref 0]) rfl rfl rfl ?_
  refine mi_wp_p (pc' := 496) (st' := [.int (Int32.ofInt 0), .int (Int32.ofInt 5), .ref 0]) rfl rfl rfl ?_
  refine ls_ti rfl rfl rfl rfl rfl rfl (mi_cal_v2 (np := 2) (args := [.ref 0, .int (Int32.ofInt 5), .int (Int32.ofInt 0)]) (rest := []) rfl rfl rfl rfl rfl (Nat.le_of_ble_eq_true rfl) rfl rfl (Nat.le_of_ble_eq_true rfl) (ty_rcS S (List.mem_of_getElem? (i := 0) rfl))) (Nat.le_of_ble_eq_true rfl) S (iv_parts (d := 1) (a := 5) I (by omega) hd h5 (by omega)) ?_
  intro x hh6 σ6 S f P
  obtain ⟨P, QQ, -⟩ := P
  replace I := QQ.1
  replace U := QQ.2 U
  clear QQ
  replace A_rw := LT_M A_rw f b55_rw
  rw [P]
  clear P
  refine mi_wp_p (pc' := 500) (st' := [.int (Int32.ofInt 1), .int (Int32.ofInt (pz t5))]) rfl rfl rfl ?_
  refine mi_wp_p (pc' := 501) (st' := [.int (Int32.ofInt 2), .int (Int32.ofInt 1), .int (Int32.ofInt (pz t5))]) rfl rfl rfl ?_
  refine mi_wp_p (pc' := 502) (st' := [.ref 0, .int (Int32.ofInt 2), .int (Int32.ofInt 1), .int (Int32.ofInt (pz t5))]) rfl rfl rfl ?_
  refine mi_wp_p (pc' := 503) (st' := [.int (Int32.ofInt 0), .ref 0, .int (Int32.ofInt 2), .int (Int32.ofInt 1), .int (Int32.ofInt (pz t5))]) rfl rfl rfl ?_
  refine mi_wp_p (pc' := 504) (st' := [.int (Int32.ofInt 0), .int (Int32.ofInt 0), .ref 0, .int (Int32.ofInt 2), .int (Int32.ofInt 1), .int (Int32.ofInt (pz t5))]) rfl rfl rfl ?_
  refine ls_ti rfl rfl rfl rfl rfl rfl (mi_cal_v2 (np := 2) (args := [.ref 0, .int (Int32.ofInt 0), .int (Int32.ofInt 0)]) (rest := [.int (Int32.ofInt 2), .int (Int32.ofInt 1), .int (Int32.ofInt (pz t5))]) rfl rfl rfl rfl rfl (Nat.le_of_ble_eq_true rfl) rfl rfl (Nat.le_of_ble_eq_true rfl) (ty_rcS S (List.mem_of_getElem? (i := 0) rfl))) (Nat.le_of_ble_eq_true rfl) S (iv_parts (d := 1) (a := 0) I (by omega) hd h0 (by omega)) ?_
  intro x hh7 σ7 S f P
  obtain ⟨P, QQ, -⟩ := P
  replace I := QQ.1
  replace U := QQ.2 U
  clear QQ
  replace A_rw := LT_M A_rw f b55_rw
  rw [P]
  clear P
  refine mi_s_mul rfl rfl ?_
  refine mi_s_add rfl rfl ?_
  refine mi_s_if2 (t := 514) rfl rfl rfl (by unfold mi_R; omega) (by unfold mi_R; omega) (fun _ => ?_) (fun hc_ => absurd (show (pz t5) = (1 + (2 * (pz t0))) by omega) hc_)
  refine mi_wp_p (pc' := 515) (st' := [.ref 0]) rfl rfl rfl ?_
  refine mi_wp_p (pc' := 516) (st' := [.int (Int32.ofInt 4), .ref 0]) rfl rfl rfl ?_
  refine mi_wp_p (pc' := 517) (st' := [.int (Int32.ofInt 1), .int (Int32.ofInt 4), .ref 0]) rfl rfl rfl ?_
  refine ls_ti rfl rfl rfl rfl rfl rfl (mi_cal_v2 (np := 2) (args := [.ref 0, .int (Int32.ofInt 4), .int (Int32.ofInt 1)]) (rest := []) rfl rfl rfl rfl rfl (Nat.le_of_ble_eq_true rfl) rfl rfl (Nat.le_of_ble_eq_true rfl) (ty_rcS S (List.mem_of_getElem? (i := 0) rfl))) (Nat.le_of_ble_eq_true rfl) S (iv_marks (d := 1) (a := 4) I (by omega) hd h4) ?_
  intro x hh8 σ8 S f P
  obtain ⟨P, QQ, -⟩ := P
  replace I := QQ.1
  replace U := QQ.2 U
  clear QQ
  replace A_rw := LT_M A_rw f b55_rw
  rw [P]
  clear P
  refine mi_wp_p (pc' := 521) (st' := [.int (Int32.ofInt 1), .int (Int32.ofInt (nv t4))]) rfl rfl rfl ?_
  refine mi_wp_p (pc' := 522) (st' := [.ref 0, .int (Int32.ofInt 1), .int (Int32.ofInt (nv t4))]) rfl rfl rfl ?_
  refine mi_wp_p (pc' := 523) (st' := [.int (Int32.ofInt 2), .ref 0, .int (Int32.ofInt 1), .int (Int32.ofInt (nv t4))]) rfl rfl rfl ?_
  refine mi_wp_p (pc' := 524) (st' := [.int (Int32.ofInt 1), .int (Int32.ofInt 2), .ref 0, .int (Int32.ofInt 1), .int (Int32.ofInt (nv t4))]) rfl rfl rfl ?_
  refine ls_ti rfl rfl rfl rfl rfl rfl (mi_cal_v2 (np := 2) (args := [.ref 0, .int (Int32.ofInt 2), .int (Int32.ofInt 1)]) (rest := [.int (Int32.ofInt 1), .int (Int32.ofInt (nv t4))]) rfl rfl rfl rfl rfl (Nat.le_of_ble_eq_true rfl) rfl rfl (Nat.le_of_ble_eq_true rfl) (ty_rcS S (List.mem_of_getElem? (i := 0) rfl))) (Nat.le_of_ble_eq_true rfl) S (iv_marks (d := 1) (a := 2) I (by omega) hd h2) ?_
  intro x hh9 σ9 S f P
  obtain ⟨P, QQ, -⟩ := P
  replace I := QQ.1
  replace U := QQ.2 U
  clear QQ
  replace A_rw := LT_M A_rw f b55_rw
  rw [P]
  clear P
  refine mi_s_add rfl rfl ?_
  refine mi_s_if2 (t := 577) rfl rfl rfl (by unfold mi_R; omega) (by unfold mi_R; omega) (fun hc_ => absurd (show (nv t4) ≠ (1 + (nv t2)) from hc_) (by omega)) (fun _ => ?_)
  refine mi_wp_p (pc' := 532) (st' := [.ref 0]) rfl rfl rfl ?_
  refine mi_wp_p (pc' := 533) (st' := [.int (Int32.ofInt 5), .ref 0]) rfl rfl rfl ?_
  refine mi_wp_p (pc' := 534) (st' := [.int (Int32.ofInt 1), .int (Int32.ofInt 5), .ref 0]) rfl rfl rfl ?_
  refine ls_ti rfl rfl rfl rfl rfl rfl (mi_cal_v2 (np := 2) (args := [.ref 0, .int (Int32.ofInt 5), .int (Int32.ofInt 1)]) (rest := []) rfl rfl rfl rfl rfl (Nat.le_of_ble_eq_true rfl) rfl rfl (Nat.le_of_ble_eq_true rfl) (ty_rcS S (List.mem_of_getElem? (i := 0) rfl))) (Nat.le_of_ble_eq_true rfl) S (iv_marks (d := 1) (a := 5) I (by omega) hd h5) ?_
  intro x hh10 σ10 S f P
  obtain ⟨P, QQ, -⟩ := P
  replace I := QQ.1
  replace U := QQ.2 U
  clear QQ
  replace A_rw := LT_M A_rw f b55_rw
  rw [P]
  clear P
  refine mi_wp_p (pc' := 538) (st' := [.int (Int32.ofInt 2), .int (Int32.ofInt (nv t5))]) rfl rfl rfl ?_
  refine mi_wp_p (pc' := 539) (st' := [.ref 0, .int (Int32.ofInt 2), .int (Int32.ofInt (nv t5))]) rfl rfl rfl ?_
  refine mi_wp_p (pc' := 540) (st' := [.int (Int32.ofInt 0), .ref 0, .int (Int32.ofInt 2), .int (Int32.ofInt (nv t5))]) rfl rfl rfl ?_
  refine mi_wp_p (pc' := 541) (st' := [.int (Int32.ofInt 1), .int (Int32.ofInt 0), .ref 0, .int (Int32.ofInt 2), .int (Int32.ofInt (nv t5))]) rfl rfl rfl ?_
  refine ls_ti rfl rfl rfl rfl rfl rfl (mi_cal_v2 (np := 2) (args := [.ref 0, .int (Int32.ofInt 0), .int (Int32.ofInt 1)]) (rest := [.int (Int32.ofInt 2), .int (Int32.ofInt (nv t5))]) rfl rfl rfl rfl rfl (Nat.le_of_ble_eq_true rfl) rfl rfl (Nat.le_of_ble_eq_true rfl) (ty_rcS S (List.mem_of_getElem? (i := 0) rfl))) (Nat.le_of_ble_eq_true rfl) S (iv_marks (d := 1) (a := 0) I (by omega) hd h0) ?_
  intro x hh11 σ11 S f P
  obtain ⟨P, QQ, -⟩ := P
  replace I := QQ.1
  replace U := QQ.2 U
  clear QQ
  replace A_rw := LT_M A_rw f b55_rw
  rw [P]
  clear P
  refine mi_s_mul rfl rfl ?_
  refine mi_s_if2 (t := 577) rfl rfl rfl (by unfold mi_R; omega) (by unfold mi_R; omega) (fun hc_ => absurd (show (nv t5) ≠ (2 * (nv t0)) from hc_) (by omega)) (fun _ => ?_)
  refine mi_wp_p (pc' := 549) (st' := [.ref 0]) rfl rfl rfl ?_
  refine mi_wp_p (pc' := 550) (st' := [.int (Int32.ofInt 3), .ref 0]) rfl rfl rfl ?_
  refine mi_wp_p (pc' := 551) (st' := [.int (Int32.ofInt 0), .int (Int32.ofInt 3), .ref 0]) rfl rfl rfl ?_
  refine ls_ti rfl rfl rfl rfl rfl rfl (mi_cal_v2 (np := 2) (args := [.ref 0, .int (Int32.ofInt 3), .int (Int32.ofInt 0)]) (rest := []) rfl rfl rfl rfl rfl (Nat.le_of_ble_eq_true rfl) rfl rfl (Nat.le_of_ble_eq_true rfl) (ty_rcS S (List.mem_of_getElem? (i := 0) rfl))) (Nat.le_of_ble_eq_true rfl) S (tl_uses (d := 79) (a := 3) (b := 0) (by decide) (by rw [I.1.2.2.1, hd6]; decide) (by rw [I.1.2.2.1, hd6]; decide) (by decide) (by rw [I.1.2.2.1, hd6]; decide)) ?_
  intro x hh12 σ12 S f P
  obtain ⟨P, P2⟩ := P
  rw [P2] at S
  clear P2
  replace A_rw := LT_M A_rw f b55_rw
  rw [P, show ((3 : Int) * 24 + 0) = 72 by decide, U.1]
  clear P
  refine mi_wp_p (pc' := 555) (st' := [.int (Int32.ofInt 1), .int (Int32.ofInt 1)]) rfl rfl rfl ?_
  refine mi_s_if2 (t := 577) rfl rfl rfl (by unfold mi_R; omega) (by unfold mi_R; omega) (fun hc_ => absurd (show (1 : Int) ≠ 1 from hc_) (by omega)) (fun _ => ?_)
  refine mi_wp_p (pc' := 559) (st' := [.ref 0]) rfl rfl rfl ?_
  refine mi_wp_p (pc' := 560) (st' := [.int (Int32.ofInt 5), .ref 0]) rfl rfl rfl ?_
  refine mi_wp_p (pc' := 561) (st' := [.int (Int32.ofInt 0), .int (Int32.ofInt 5), .ref 0]) rfl rfl rfl ?_
  refine ls_ti rfl rfl rfl rfl rfl rfl (mi_cal_v2 (np := 2) (args := [.ref 0, .int (Int32.ofInt 5), .int (Int32.ofInt 0)]) (rest := []) rfl rfl rfl rfl rfl (Nat.le_of_ble_eq_true rfl) rfl rfl (Nat.le_of_ble_eq_true rfl) (ty_rcS S (List.mem_of_getElem? (i := 0) rfl))) (Nat.le_of_ble_eq_true rfl) S (tl_uses (d := 79) (a := 5) (b := 0) (by decide) (by rw [I.1.2.2.1, hd6]; decide) (by rw [I.1.2.2.1, hd6]; decide) (by decide) (by rw [I.1.2.2.1, hd6]; decide)) ?_
  intro x hh13 σ13 S f P
  obtain ⟨P, P2⟩ := P
  rw [P2] at S
  clear P2
  replace A_rw := LT_M A_rw f b55_rw
  rw [P, show ((5 : Int) * 24 + 0) = 120 by decide, U.2.1]
  clear P
  refine mi_wp_p (pc' := 565) (st' := [.int (Int32.ofInt 1), .int (Int32.ofInt 1)]) rfl rfl rfl ?_
  refine mi_s_if2 (t := 577) rfl rfl rfl (by unfold mi_R; omega) (by unfold mi_R; omega) (fun hc_ => absurd (show (1 : Int) ≠ 1 from hc_) (by omega)) (fun _ => ?_)
  refine mi_wp_p (pc' := 569) (st' := [.ref 0]) rfl rfl rfl ?_
  refine mi_wp_p (pc' := 570) (st' := [.int (Int32.ofInt 4), .ref 0]) rfl rfl rfl ?_
  refine mi_wp_p (pc' := 571) (st' := [.int (Int32.ofInt 1), .int (Int32.ofInt 4), .ref 0]) rfl rfl rfl ?_
  refine ls_ti rfl rfl rfl rfl rfl rfl (mi_cal_v2 (np := 2) (args := [.ref 0, .int (Int32.ofInt 4), .int (Int32.ofInt 1)]) (rest := []) rfl rfl rfl rfl rfl (Nat.le_of_ble_eq_true rfl) rfl rfl (Nat.le_of_ble_eq_true rfl) (ty_rcS S (List.mem_of_getElem? (i := 0) rfl))) (Nat.le_of_ble_eq_true rfl) S (tl_uses (d := 79) (a := 4) (b := 1) (by decide) (by rw [I.1.2.2.1, hd6]; decide) (by rw [I.1.2.2.1, hd6]; decide) (by decide) (by rw [I.1.2.2.1, hd6]; decide)) ?_
  intro x hh14 σ14 S f P
  obtain ⟨P, P2⟩ := P
  rw [P2] at S
  clear P2
  replace A_rw := LT_M A_rw f b55_rw
  rw [P, show ((4 : Int) * 24 + 1) = 97 by decide, U.2.2]
  clear P
  refine mi_s_if1 (t := 579) rfl rfl rfl (by unfold mi_R; omega) (fun _ => ?_) (fun hc_ => absurd (show (0 : Int) = 0 by omega) hc_)
  exact kk _ _ S (IV_mono I (by omega)) A_rw
end LW
