/-! ===== the law's body for a definition, to its inner loop (printed by wip/gen/p_law9.py) ===== -/
theorem nm_q {a : Nat} (h : a < 6) {q : Nat → Option Nat} (e : q = va_up (va_up (va_up (va_up (va_up (va_up (fun _ => none) (0 : Int).toNat (some 144)) (1 : Int).toNat (some 148)) (2 : Int).toNat (some 152)) (3 : Int).toNat (some 156)) (4 : Int).toNat (some 160)) (5 : Int).toNat (some 164)) : q ((a : Int)).toNat = some (4 * (36 + a)) := by
  subst e
  obtain rfl | rfl | rfl | rfl | rfl | rfl : a = 0 ∨ a = 1 ∨ a = 2 ∨ a = 3 ∨ a = 4 ∨ a = 5 := by omega
  all_goals rfl
section LW
variable {X : mi_X} {h : mi_H} {σ : mi_Sg} {ds : List (Int64 × tr)}
set_option maxRecDepth 100000 in
theorem body_a0 {o5 o6 : Nat} {rw nx a : Nat} {t : tr} {bs : List Int} {r : Int} {c s : Nat} {Q : mi_Z → Prop} (S : ty_H h σ) (I : IV σ ds r) (U : US σ) (hr : r ≤ 99000000) (hd : ds.length ≤ 24) (ha : ds[a]? = some (tokY (a + 1), t)) (ha6 : a < 6) (dt : DT t) (hd1 : ∀ (j : Nat) (q : Int64 × tr), j < a → ds[j]? = some q → q.1 ≠ tokY (a + 1)) (A_rw : LT h rw 1200 bs) (b55_rw : 55 ≤ rw)
    (kk : ∀ h' σ' tx, ty_H h' σ' → IV σ' ds (r + 3 + 1 + 1 + 1 + 1 + 1) → US σ' → rwl σ' 53 5 (txt t) → LA h' tx ((txt t).length : Int).toNat (fun _ => 0) → 55 ≤ tx → rw ≠ tx → LT h' rw 1200 bs → mi_wp X 82 mi_ML 234 [(7, .int (Int32.ofInt 0)), (6, .ref tx), (5, .int (Int32.ofInt ((txt t).length : Int))), (4, .int (Int32.ofInt (a : Int))), (3, .ref nx), (2, .ref rw), (1, .ref 0), (0, .retAddr 3)] [] h' (c + 1) (s + ((txt t).length : Int).toNat) Q) : mi_wp X 82 mi_ML 163 [(4, .int (Int32.ofInt (a : Int))), (6, .ref o6), (5, .ref o5), (3, .ref nx), (2, .ref rw), (1, .ref 0), (0, .retAddr 3)] [] h c s Q := by
  obtain ⟨hw, hwl, hpz, hnv⟩ := dt
  have hrk := rk_lt _ t (Nat.le_refl _) hw
  have hnp := nv_le hw
  have hn0 : 0 ≤ nv t := Int.natCast_nonneg _
  have hr0 := rk_pz t
  have hlen := txt_wl t
  have htb := txt_b hw (by omega)
  refine mi_wp_p (pc' := 165) (st' := [.int (Int32.ofInt (a : Int))]) rfl rfl rfl ?_
  refine mi_s_k (pc' := 167) (e := 6) rfl rfl rfl (by decide +kernel) ?_
  refine mi_s_if2 (t := 452) rfl rfl rfl (by unfold mi_R; omega) (by unfold mi_R; omega) (fun hc_ => absurd (show 6 ≤ (a : Int) from hc_) (by omega)) (fun _ => ?_)
  refine mi_wp_p (pc' := 171) (st' := [.ref 0]) rfl rfl rfl ?_
  refine mi_wp_p (pc' := 173) (st' := [.int (Int32.ofInt (a : Int)), .ref 0]) rfl rfl rfl ?_
  refine mi_wp_p (pc' := 175) (st' := [.int (Int32.ofInt (a : Int)), .int (Int32.ofInt (a : Int)), .ref 0]) rfl rfl rfl ?_
  refine ls_ti rfl rfl rfl rfl rfl rfl (mi_cal_v2 (np := 2) (args := [.ref 0, .int (Int32.ofInt (a : Int)), .int (Int32.ofInt (a : Int))]) (rest := []) rfl rfl rfl rfl rfl (Nat.le_of_ble_eq_true rfl) rfl rfl (Nat.le_of_ble_eq_true rfl) (ty_rcS S (List.mem_of_getElem? (i := 0) rfl))) (Nat.le_of_ble_eq_true rfl) S (iv_covers (d := 1) I (by omega) hd ha ha (by omega)) ?_
  intro x hh1 σ1 S f P
  obtain ⟨P, QQ, PP⟩ := P
  replace I := QQ.1
  replace U := QQ.2 U
  clear QQ
  replace P : x = 1 := P.elim (fun q => q.1) (fun q => (q.2 (inst_rf _)).elim)
  replace A_rw := LT_M A_rw f b55_rw
  rw [P]
  clear P
  refine mi_s_if1 (t := 215) rfl rfl rfl (by unfold mi_R; omega) (fun hc_ => absurd (show (1 : Int) = 0 from hc_) (by omega)) (fun _ => ?_)
  refine mi_wp_p (pc' := 182) (st' := [.ref 0]) rfl rfl rfl ?_
  refine mi_wp_p (pc' := 184) (st' := [.int (Int32.ofInt (a : Int)), .ref 0]) rfl rfl rfl ?_
  refine mi_wp_p (pc' := 185) (st' := [.int (Int32.ofInt 1), .int (Int32.ofInt (a : Int)), .ref 0]) rfl rfl rfl ?_
  refine ls_ti rfl rfl rfl rfl rfl rfl (mi_cal_v2 (np := 2) (args := [.ref 0, .int (Int32.ofInt (a : Int)), .int (Int32.ofInt 1)]) (rest := []) rfl rfl rfl rfl rfl (Nat.le_of_ble_eq_true rfl) rfl rfl (Nat.le_of_ble_eq_true rfl) (ty_rcS S (List.mem_of_getElem? (i := 0) rfl))) (Nat.le_of_ble_eq_true rfl) S (iv_marks (d := 1) I (by omega) hd ha) ?_
  intro x hh2 σ2 S f P
  obtain ⟨P, QQ, PP⟩ := P
  replace I := QQ.1
  replace U := QQ.2 U
  clear QQ
  replace A_rw := LT_M A_rw f b55_rw
  rw [P]
  clear P
  refine mi_wp_p (pc' := 189) (st' := [.ref 0, .int (Int32.ofInt (nv t))]) rfl rfl rfl ?_
  refine mi_wp_p (pc' := 191) (st' := [.int (Int32.ofInt (a : Int)), .ref 0, .int (Int32.ofInt (nv t))]) rfl rfl rfl ?_
  refine mi_wp_p (pc' := 192) (st' := [.int (Int32.ofInt 0), .int (Int32.ofInt (a : Int)), .ref 0, .int (Int32.ofInt (nv t))]) rfl rfl rfl ?_
  refine ls_ti rfl rfl rfl rfl rfl rfl (mi_cal_v2 (np := 2) (args := [.ref 0, .int (Int32.ofInt (a : Int)), .int (Int32.ofInt 0)]) (rest := [.int (Int32.ofInt (nv t))]) rfl rfl rfl rfl rfl (Nat.le_of_ble_eq_true rfl) rfl rfl (Nat.le_of_ble_eq_true rfl) (ty_rcS S (List.mem_of_getElem? (i := 0) rfl))) (Nat.le_of_ble_eq_true rfl) S (iv_parts (d := 1) I (by omega) hd ha (by omega)) ?_
  intro x hh3 σ3 S f P
  obtain ⟨P, QQ, PP⟩ := P
  replace I := QQ.1
  replace U := QQ.2 U
  clear QQ
  replace A_rw := LT_M A_rw f b55_rw
  rw [P]
  clear P
  refine mi_s_if2 (t := 215) rfl rfl rfl (by unfold mi_R; omega) (by unfold mi_R; omega) (fun hc_ => absurd (show (pz t) < (nv t) from hc_) (by omega)) (fun _ => ?_)
  refine mi_wp_p (pc' := 199) (st' := [.ref 0]) rfl rfl rfl ?_
  refine mi_wp_p (pc' := 201) (st' := [.int (Int32.ofInt (a : Int)), .ref 0]) rfl rfl rfl ?_
  refine mi_wp_p (pc' := 202) (st' := [.int (Int32.ofInt 2), .int (Int32.ofInt (a : Int)), .ref 0]) rfl rfl rfl ?_
  refine ls_ti rfl rfl rfl rfl rfl rfl (mi_cal_v2 (np := 2) (args := [.ref 0, .int (Int32.ofInt (a : Int)), .int (Int32.ofInt 2)]) (rest := []) rfl rfl rfl rfl rfl (Nat.le_of_ble_eq_true rfl) rfl rfl (Nat.le_of_ble_eq_true rfl) (ty_rcS S (List.mem_of_getElem? (i := 0) rfl))) (Nat.le_of_ble_eq_true rfl) S (iv_rank (d := 1) I (by omega) hd ha (by omega)) ?_
  intro x hh4 σ4 S f P
  obtain ⟨P, QQ, PP⟩ := P
  replace I := QQ.1
  replace U := QQ.2 U
  clear QQ
  replace A_rw := LT_M A_rw f b55_rw
  rw [P]
  clear P
  refine mi_wp_p (pc' := 206) (st' := [.ref 0, .int (Int32.ofInt (rk t))]) rfl rfl rfl ?_
  refine mi_wp_p (pc' := 208) (st' := [.int (Int32.ofInt (a : Int)), .ref 0, .int (Int32.ofInt (rk t))]) rfl rfl rfl ?_
  refine mi_wp_p (pc' := 209) (st' := [.int (Int32.ofInt 0), .int (Int32.ofInt (a : Int)), .ref 0, .int (Int32.ofInt (rk t))]) rfl rfl rfl ?_
  refine ls_ti rfl rfl rfl rfl rfl rfl (mi_cal_v2 (np := 2) (args := [.ref 0, .int (Int32.ofInt (a : Int)), .int (Int32.ofInt 0)]) (rest := [.int (Int32.ofInt (rk t))]) rfl rfl rfl rfl rfl (Nat.le_of_ble_eq_true rfl) rfl rfl (Nat.le_of_ble_eq_true rfl) (ty_rcS S (List.mem_of_getElem? (i := 0) rfl))) (Nat.le_of_ble_eq_true rfl) S (iv_parts (d := 1) I (by omega) hd ha (by omega)) ?_
  intro x hh5 σ5 S f P
  obtain ⟨P, QQ, PP⟩ := P
  replace I := QQ.1
  replace U := QQ.2 U
  clear QQ
  replace A_rw := LT_M A_rw f b55_rw
  rw [P]
  clear P
  refine mi_s_if2 (t := 217) rfl rfl rfl (by unfold mi_R; omega) (by unfold mi_R; omega) (fun _ => ?_) (fun hc_ => absurd (show (rk t) < (pz t) by omega) hc_)
  refine mi_wp_p (pc' := 218) (st' := [.ref 0]) rfl rfl rfl ?_
  refine mi_wp_p (pc' := 220) (st' := [.int (Int32.ofInt (a : Int)), .ref 0]) rfl rfl rfl ?_
  refine ls_ti rfl rfl rfl rfl rfl rfl (mi_cal_v2 (np := 1) (args := [.ref 0, .int (Int32.ofInt (a : Int))]) (rest := []) rfl rfl rfl rfl rfl (Nat.le_of_ble_eq_true rfl) rfl rfl (Nat.le_of_ble_eq_true rfl) (ty_rcS S (List.mem_of_getElem? (i := 0) rfl))) (Nat.le_of_ble_eq_true rfl) S (iv_write (d := 1) I (by omega) hd ha hwl (by omega)) ?_
  intro x hh6 σ6 S f P
  obtain ⟨P, QQ, PP⟩ := P
  replace I := QQ.1
  replace U := QQ.2 U
  clear QQ
  replace A_rw := LT_M A_rw f b55_rw
  rw [P, ← txt_wl]
  clear P
  refine mi_wp_p (pc' := 225) (l' := [(5, .int (Int32.ofInt ((txt t).length : Int))), (4, .int (Int32.ofInt (a : Int))), (6, .ref o6), (3, .ref nx), (2, .ref rw), (1, .ref 0), (0, .retAddr 3)]) (st' := []) rfl rfl rfl ?_
  refine mi_wp_p (pc' := 227) (st' := [.int (Int32.ofInt ((txt t).length : Int))]) rfl rfl rfl ?_
  have l55_tx := ty_H_55 S
  refine ls_new rfl rfl (by omega) (by omega) ?_
  intro h4_ tx e_tx A_tx f e2_tx
  clear e2_tx
  have b55_tx : 55 ≤ tx := by omega
  have ne_rw_tx : rw ≠ tx := by have := LT_lt A_rw; omega
  replace A_rw := LT_F0 A_rw f
  replace S := ty_H_F0 S f
  refine mi_wp_p (pc' := 231) (l' := [(6, .ref tx), (5, .int (Int32.ofInt ((txt t).length : Int))), (4, .int (Int32.ofInt (a : Int))), (3, .ref nx), (2, .ref rw), (1, .ref 0), (0, .retAddr 3)]) (st' := []) rfl rfl rfl ?_
  refine mi_wp_p (pc' := 232) (st' := [.int (Int32.ofInt 0)]) rfl rfl rfl ?_
  refine mi_wp_p (pc' := 234) (l' := [(7, .int (Int32.ofInt 0)), (6, .ref tx), (5, .int (Int32.ofInt ((txt t).length : Int))), (4, .int (Int32.ofInt (a : Int))), (3, .ref nx), (2, .ref rw), (1, .ref 0), (0, .retAddr 3)]) (st' := []) rfl rfl rfl ?_
  exact kk _ _ tx S I U PP A_tx b55_tx (by omega) A_rw
set_option maxRecDepth 100000 in
set_option maxHeartbeats 1000000 in
theorem body_b0 {rw nx a tx : Nat} {t : tr} {bs : List Int} {r : Int} {c s : Nat} {Q : mi_Z → Prop} (S : ty_H h σ) (I : IV σ ds r) (U : US σ) (hr : r ≤ 99000000) (hd : ds.length ≤ 24) (ha : ds[a]? = some (tokY (a + 1), t)) (ha6 : a < 6) (dt : DT t) (hd1 : ∀ (j : Nat) (q : Int64 × tr), j < a → ds[j]? = some q → q.1 ≠ tokY (a + 1)) (hk : a < 6 → tokK (a + 1) = 13) (hlb : a < 6 → (tokB (a + 1)).length ≤ 10) (A_tx : LB h tx (txt t)) (b55_tx : 55 ≤ tx) (A_rw : LT h rw 1200 bs) (b55_rw : 55 ≤ rw)
    (kk : ∀ h' σ' nm c' s', ty_H h' σ' → IV σ' ds (r + 3 + 5) → US σ' → LB h' tx (txt t) → LT h' rw 1200 bs → c' ≤ c + 62 → s' ≤ s + 1206 → mi_wp X 82 mi_ML 343 [(8, .int (Int32.ofInt 0)), (7, .ref nm), (6, .ref tx), (5, .int (Int32.ofInt ((txt t).length : Int))), (4, .int (Int32.ofInt (a : Int))), (3, .ref nx), (2, .ref rw), (1, .ref 0), (0, .retAddr 3)] [] h' c' s' Q) : mi_wp X 82 mi_ML 258 [(7, .int (Int32.ofInt ((txt t).length : Int))), (6, .ref tx), (5, .int (Int32.ofInt ((txt t).length : Int))), (4, .int (Int32.ofInt (a : Int))), (3, .ref nx), (2, .ref rw), (1, .ref 0), (0, .retAddr 3)] [] h c s Q := by
  obtain ⟨hw, hwl, hpz, hnv⟩ := dt
  have hrk := rk_lt _ t (Nat.le_refl _) hw
  have hnp := nv_le hw
  have hn0 : 0 ≤ nv t := Int.natCast_nonneg _
  have hr0 := rk_pz t
  have hlen := txt_wl t
  have htb := txt_b hw (by omega)
  refine mi_s_k (pc' := 260) (e := 6) rfl rfl rfl (by decide +kernel) ?_
  have l55_nm := ty_H_55 S
  refine ls_qnew rfl rfl rfl (by omega) (by omega) ?_
  intro h5_ nm e_nm A_nm f e2_nm
  clear e2_nm
  have b55_nm : 55 ≤ nm := by omega
  have ne_rw_nm : rw ≠ nm := by have := LT_lt A_rw; omega
  have ne_tx_nm : tx ≠ nm := by have := LB_lt A_tx; omega
  replace A_rw := LT_F0 A_rw f
  replace A_tx := LB_F0 A_tx f
  replace S := ty_H_F0 S f
  refine mi_wp_p (pc' := 264) (st' := [.ref nm, .ref nm]) rfl rfl rfl ?_
  refine mi_wp_p (pc' := 265) (st' := [.int (Int32.ofInt 0), .ref nm, .ref nm]) rfl rfl rfl ?_
  refine mi_s_lds (i := 36) rfl rfl rfl rfl rfl ?_
  refine ls_qst A_nm rfl rfl (by omega) (by omega) (by omega) (by decide) ?_
  intro h6_ A_nm f
  replace A_rw := LT_F1 A_rw f (by omega)
  replace A_tx := LB_F1 A_tx f (by omega)
  replace S := ty_H_F1 S f (by omega)
  refine mi_wp_p (pc' := 269) (st' := [.ref nm, .ref nm]) rfl rfl rfl ?_
  refine mi_wp_p (pc' := 270) (st' := [.int (Int32.ofInt 1), .ref nm, .ref nm]) rfl rfl rfl ?_
  refine mi_s_lds (i := 37) rfl rfl rfl rfl rfl ?_
  refine ls_qst A_nm rfl rfl (by omega) (by omega) (by omega) (by decide) ?_
  intro h7_ A_nm f
  replace A_rw := LT_F1 A_rw f (by omega)
  replace A_tx := LB_F1 A_tx f (by omega)
  replace S := ty_H_F1 S f (by omega)
  refine mi_wp_p (pc' := 274) (st' := [.ref nm, .ref nm]) rfl rfl rfl ?_
  refine mi_wp_p (pc' := 275) (st' := [.int (Int32.ofInt 2), .ref nm, .ref nm]) rfl rfl rfl ?_
  refine mi_s_lds (i := 38) rfl rfl rfl rfl rfl ?_
  refine ls_qst A_nm rfl rfl (by omega) (by omega) (by omega) (by decide) ?_
  intro h8_ A_nm f
  replace A_rw := LT_F1 A_rw f (by omega)
  replace A_tx := LB_F1 A_tx f (by omega)
  replace S := ty_H_F1 S f (by omega)
  refine mi_wp_p (pc' := 279) (st' := [.ref nm, .ref nm]) rfl rfl rfl ?_
  refine mi_wp_p (pc' := 280) (st' := [.int (Int32.ofInt 3), .ref nm, .ref nm]) rfl rfl rfl ?_
  refine mi_s_lds (i := 39) rfl rfl rfl rfl rfl ?_
  refine ls_qst A_nm rfl rfl (by omega) (by omega) (by omega) (by decide) ?_
  intro h9_ A_nm f
  replace A_rw := LT_F1 A_rw f (by omega)
  replace A_tx := LB_F1 A_tx f (by omega)
  replace S := ty_H_F1 S f (by omega)
  refine mi_wp_p (pc' := 284) (st' := [.ref nm, .ref nm]) rfl rfl rfl ?_
  refine mi_wp_p (pc' := 285) (st' := [.int (Int32.ofInt 4), .ref nm, .ref nm]) rfl rfl rfl ?_
  refine mi_s_lds (i := 40) rfl rfl rfl rfl rfl ?_
  refine ls_qst A_nm rfl rfl (by omega) (by omega) (by omega) (by decide) ?_
  intro h10_ A_nm f
  replace A_rw := LT_F1 A_rw f (by omega)
  replace A_tx := LB_F1 A_tx f (by omega)
  replace S := ty_H_F1 S f (by omega)
  refine mi_wp_p (pc' := 289) (st' := [.ref nm, .ref nm]) rfl rfl rfl ?_
  refine mi_wp_p (pc' := 290) (st' := [.int (Int32.ofInt 5), .ref nm, .ref nm]) rfl rfl rfl ?_
  refine mi_s_lds (i := 41) rfl rfl rfl rfl rfl ?_
  refine ls_qst A_nm rfl rfl (by omega) (by omega) (by omega) (by decide) ?_
  intro h11_ A_nm f
  replace A_rw := LT_F1 A_rw f (by omega)
  replace A_tx := LB_F1 A_tx f (by omega)
  replace S := ty_H_F1 S f (by omega)
  refine mi_wp_p (pc' := 295) (l' := [(7, .ref nm), (6, .ref tx), (5, .int (Int32.ofInt ((txt t).length : Int))), (4, .int (Int32.ofInt (a : Int))), (3, .ref nx), (2, .ref rw), (1, .ref 0), (0, .retAddr 3)]) (st' := []) rfl rfl rfl ?_
  refine mi_wp_p (pc' := 296) (st' := [.ref 0]) rfl rfl rfl ?_
  refine mi_wp_p (pc' := 298) (st' := [.ref nm, .ref 0]) rfl rfl rfl ?_
  refine mi_wp_p (pc' := 300) (st' := [.int (Int32.ofInt (a : Int)), .ref nm, .ref 0]) rfl rfl rfl ?_
  refine ls_qld (k := (4 * (36 + a))) A_nm rfl rfl (by omega) (by omega) (by omega) (nm_q ha6 rfl) ?_
  refine ls_ci rfl rfl rfl rfl rfl rfl (mi_cal_s2 (np := 2) (args := [.ref 0, .retAddr (4 * (36 + a))]) (rest := []) rfl rfl rfl (Or.inl rfl) rfl (Nat.le_of_ble_eq_true rfl) rfl rfl (Nat.le_of_ble_eq_true rfl)) (Nat.le_of_ble_eq_true rfl) (lw_ask (d := 0) S I (by omega) hd (STR_a ha6) ha (by omega) (hk ha6) (hlb ha6) hd1 (by omega) hwl (by omega)) ?_
  intro x hh7 c1_ s1_ hc1_ hs1_ P
  obtain ⟨P, f, σ7, S1, QQ, PP⟩ := P
  replace A_rw := LT_G A_rw f b55_rw
  replace A_tx := LB_G A_tx f b55_tx
  replace A_nm := LR_G A_nm f b55_nm
  clear S
  have S := S1
  clear S1
  replace I := QQ.1
  replace U := QQ.2 U
  clear QQ
  rw [P]
  clear P
  refine mi_s_if1 (t := 338) rfl rfl rfl (by unfold mi_R; omega) (fun hc_ => absurd (show (0 : Int) ≠ 0 from hc_) (by omega)) (fun _ => ?_)
  refine mi_wp_p (pc' := 308) (st' := [.ref 0]) rfl rfl rfl ?_
  refine mi_wp_p (pc' := 310) (st' := [.ref tx, .ref 0]) rfl rfl rfl ?_
  refine ls_ci rfl rfl rfl rfl rfl rfl (mi_cal_s2 (np := 2) (args := [.ref 0, .ref tx]) (rest := []) rfl rfl rfl (Or.inl rfl) rfl (Nat.le_of_ble_eq_true rfl) rfl rfl (Nat.le_of_ble_eq_true rfl)) (Nat.le_of_ble_eq_true rfl) (lw_paper (d := 78) S A_tx b55_tx PP (by omega) (by omega) htb htb) ?_
  intro x hh8 c_ s_ hc_ hs_ P
  obtain rfl : c_ = 0 := by omega
  obtain rfl : s_ = 0 := by omega
  obtain ⟨P, S, f⟩ := P
  replace P : x = 1 := P.elim (fun q => q.1) (fun q => (q.2 rfl).elim)
  replace A_rw := LT_M A_rw f b55_rw
  replace A_tx := LB_M A_tx f b55_tx
  replace A_nm := LR_M A_nm f b55_nm
  rw [P]
  clear P
  refine mi_s_if1 (t := 338) rfl rfl rfl (by unfold mi_R; omega) (fun hc_ => absurd (show (1 : Int) = 0 from hc_) (by omega)) (fun _ => ?_)
  refine mi_wp_p (pc' := 317) (st' := [.ref 0]) rfl rfl rfl ?_
  refine mi_wp_p (pc' := 319) (st' := [.int (Int32.ofInt (a : Int)), .ref 0]) rfl rfl rfl ?_
  refine mi_wp_p (pc' := 321) (st' := [.int (Int32.ofInt (a : Int)), .int (Int32.ofInt (a : Int)), .ref 0]) rfl rfl rfl ?_
  refine ls_ti rfl rfl rfl rfl rfl rfl (mi_cal_v2 (np := 2) (args := [.ref 0, .int (Int32.ofInt (a : Int)), .int (Int32.ofInt (a : Int))]) (rest := []) rfl rfl rfl rfl rfl (Nat.le_of_ble_eq_true rfl) rfl rfl (Nat.le_of_ble_eq_true rfl) (ty_rcS S (List.mem_of_getElem? (i := 0) rfl))) (Nat.le_of_ble_eq_true rfl) S (iv_meet (d := 1) I (by omega) hd ha hw hwl (by omega) hnv) ?_
  intro x hh9 σ9 S f P
  obtain ⟨P, QQ, PP⟩ := P
  replace I := QQ.1
  replace U := QQ.2 U
  clear QQ
  replace A_rw := LT_M A_rw f b55_rw
  replace A_tx := LB_M A_tx f b55_tx
  replace A_nm := LR_M A_nm f b55_nm
  rw [P, ← txt_wl]
  clear P
  refine mi_wp_p (pc' := 326) (st' := [.int (Int32.ofInt ((txt t).length : Int)), .int (Int32.ofInt ((txt t).length : Int))]) rfl rfl rfl ?_
  refine mi_s_if2 (t := 338) rfl rfl rfl (by unfold mi_R; omega) (by unfold mi_R; omega) (fun hc_ => absurd (show ((txt t).length : Int) ≠ ((txt t).length : Int) from hc_) (by omega)) (fun _ => ?_)
  refine mi_wp_p (pc' := 330) (st' := [.ref 0]) rfl rfl rfl ?_
  refine mi_wp_p (pc' := 332) (st' := [.ref tx, .ref 0]) rfl rfl rfl ?_
  refine ls_ci rfl rfl rfl rfl rfl rfl (mi_cal_s2 (np := 2) (args := [.ref 0, .ref tx]) (rest := []) rfl rfl rfl (Or.inl rfl) rfl (Nat.le_of_ble_eq_true rfl) rfl rfl (Nat.le_of_ble_eq_true rfl)) (Nat.le_of_ble_eq_true rfl) (lw_paper (d := 78) S A_tx b55_tx PP (by omega) (by omega) htb htb) ?_
  intro x hh10 c_ s_ hc_ hs_ P
  obtain rfl : c_ = 0 := by omega
  obtain rfl : s_ = 0 := by omega
  obtain ⟨P, S, f⟩ := P
  replace P : x = 1 := P.elim (fun q => q.1) (fun q => (q.2 rfl).elim)
  replace A_rw := LT_M A_rw f b55_rw
  replace A_tx := LB_M A_tx f b55_tx
  replace A_nm := LR_M A_nm f b55_nm
  rw [P]
  clear P
  refine mi_s_if1 (t := 340) rfl rfl rfl (by unfold mi_R; omega) (fun _ => ?_) (fun hc_ => absurd (show (1 : Int) ≠ 0 by omega) hc_)
  refine mi_wp_p (pc' := 341) (st' := [.int (Int32.ofInt 0)]) rfl rfl rfl ?_
  refine mi_wp_p (pc' := 343) (l' := [(8, .int (Int32.ofInt 0)), (7, .ref nm), (6, .ref tx), (5, .int (Int32.ofInt ((txt t).length : Int))), (4, .int (Int32.ofInt (a : Int))), (3, .ref nx), (2, .ref rw), (1, .ref 0), (0, .retAddr 3)]) (st' := []) rfl rfl rfl ?_
  exact kk _ _ nm _ _ S I U A_tx A_rw (by omega) (by omega)
set_option maxRecDepth 100000 in
theorem body_a1 {o6 o7 : Nat} {l5 l8 l9 : Int} {rw nx a : Nat} {t : tr} {bs : List Int} {r : Int} {c s : Nat} {Q : mi_Z → Prop} (S : ty_H h σ) (I : IV σ ds r) (U : US σ) (hr : r ≤ 99000000) (hd : ds.length ≤ 24) (ha : ds[a]? = some (tokY (a + 1), t)) (ha6 : a < 6) (dt : DT t) (hd1 : ∀ (j : Nat) (q : Int64 × tr), j < a → ds[j]? = some q → q.1 ≠ tokY (a + 1)) (A_rw : LT h rw 1200 bs) (b55_rw : 55 ≤ rw)
    (kk : ∀ h' σ' tx, ty_H h' σ' → IV σ' ds (r + 3 + 1 + 1 + 1 + 1 + 1) → US σ' → rwl σ' 53 5 (txt t) → LA h' tx ((txt t).length : Int).toNat (fun _ => 0) → 55 ≤ tx → rw ≠ tx → LT h' rw 1200 bs → mi_wp X 82 mi_ML 234 [(7, .int (Int32.ofInt 0)), (6, .ref tx), (5, .int (Int32.ofInt ((txt t).length : Int))), (4, .int (Int32.ofInt (a : Int))), (8, .int (Int32.ofInt l8)), (9, .int (Int32.ofInt l9)), (3, .ref nx), (2, .ref rw), (1, .ref 0), (0, .retAddr 3)] [] h' (c + 1) (s + ((txt t).length : Int).toNat) Q) : mi_wp X 82 mi_ML 163 [(4, .int (Int32.ofInt (a : Int))), (8, .int (Int32.ofInt l8)), (9, .int (Int32.ofInt l9)), (7, .ref o7), (6, .ref o6), (5, .int (Int32.ofInt l5)), (3, .ref nx), (2, .ref rw), (1, .ref 0), (0, .retAddr 3)] [] h c s Q := by
  obtain ⟨hw, hwl, hpz, hnv⟩ := dt
  have hrk := rk_lt _ t (Nat.le_refl _) hw
  have hnp := nv_le hw
  have hn0 : 0 ≤ nv t := Int.natCast_nonneg _
  have hr0 := rk_pz t
  have hlen := txt_wl t
  have htb := txt_b hw (by omega)
  refine mi_wp_p (pc' := 165) (st' := [.int (Int32.ofInt (a : Int))]) rfl rfl rfl ?_
  refine mi_s_k (pc' := 167) (e := 6) rfl rfl rfl (by decide +kernel) ?_
  refine mi_s_if2 (t := 452) rfl rfl rfl (by unfold mi_R; omega) (by unfold mi_R; omega) (fun hc_ => absurd (show 6 ≤ (a : Int) from hc_) (by omega)) (fun _ => ?_)
  refine mi_wp_p (pc' := 171) (st' := [.ref 0]) rfl rfl rfl ?_
  refine mi_wp_p (pc' := 173) (st' := [.int (Int32.ofInt (a : Int)), .ref 0]) rfl rfl rfl ?_
  refine mi_wp_p (pc' := 175) (st' := [.int (Int32.ofInt (a : Int)), .int (Int32.ofInt (a : Int)), .ref 0]) rfl rfl rfl ?_
  refine ls_ti rfl rfl rfl rfl rfl rfl (mi_cal_v2 (np := 2) (args := [.ref 0, .int (Int32.ofInt (a : Int)), .int (Int32.ofInt (a : Int))]) (rest := []) rfl rfl rfl rfl rfl (Nat.le_of_ble_eq_true rfl) rfl rfl (Nat.le_of_ble_eq_true rfl) (ty_rcS S (List.mem_of_getElem? (i := 0) rfl))) (Nat.le_of_ble_eq_true rfl) S (iv_covers (d := 1) I (by omega) hd ha ha (by omega)) ?_
  intro x hh11 σ11 S f P
  obtain ⟨P, QQ, PP⟩ := P
  replace I := QQ.1
  replace U := QQ.2 U
  clear QQ
  replace P : x = 1 := P.elim (fun q => q.1) (fun q => (q.2 (inst_rf _)).elim)
  replace A_rw := LT_M A_rw f b55_rw
  rw [P]
  clear P
  refine mi_s_if1 (t := 215) rfl rfl rfl (by unfold mi_R; omega) (fun hc_ => absurd (show (1 : Int) = 0 from hc_) (by omega)) (fun _ => ?_)
  refine mi_wp_p (pc' := 182) (st' := [.ref 0]) rfl rfl rfl ?_
  refine mi_wp_p (pc' := 184) (st' := [.int (Int32.ofInt (a : Int)), .ref 0]) rfl rfl rfl ?_
  refine mi_wp_p (pc' := 185) (st' := [.int (Int32.ofInt 1), .int (Int32.ofInt (a : Int)), .ref 0]) rfl rfl rfl ?_
  refine ls_ti rfl rfl rfl rfl rfl rfl (mi_cal_v2 (np := 2) (args := [.ref 0, .int (Int32.ofInt (a : Int)), .int (Int32.ofInt 1)]) (rest := []) rfl rfl rfl rfl rfl (Nat.le_of_ble_eq_true rfl) rfl rfl (Nat.le_of_ble_eq_true rfl) (ty_rcS S (List.mem_of_getElem? (i := 0) rfl))) (Nat.le_of_ble_eq_true rfl) S (iv_marks (d := 1) I (by omega) hd ha) ?_
  intro x hh12 σ12 S f P
  obtain ⟨P, QQ, PP⟩ := P
  replace I := QQ.1
  replace U := QQ.2 U
  clear QQ
  replace A_rw := LT_M A_rw f b55_rw
  rw [P]
  clear P
  refine mi_wp_p (pc' := 189) (st' := [.ref 0, .int (Int32.ofInt (nv t))]) rfl rfl rfl ?_
  refine mi_wp_p (pc' := 191) (st' := [.int (Int32.ofInt (a : Int)), .ref 0, .int (Int32.ofInt (nv t))]) rfl rfl rfl ?_
  refine mi_wp_p (pc' := 192) (st' := [.int (Int32.ofInt 0), .int (Int32.ofInt (a : Int)), .ref 0, .int (Int32.ofInt (nv t))]) rfl rfl rfl ?_
  refine ls_ti rfl rfl rfl rfl rfl rfl (mi_cal_v2 (np := 2) (args := [.ref 0, .int (Int32.ofInt (a : Int)), .int (Int32.ofInt 0)]) (rest := [.int (Int32.ofInt (nv t))]) rfl rfl rfl rfl rfl (Nat.le_of_ble_eq_true rfl) rfl rfl (Nat.le_of_ble_eq_true rfl) (ty_rcS S (List.mem_of_getElem? (i := 0) rfl))) (Nat.le_of_ble_eq_true rfl) S (iv_parts (d := 1) I (by omega) hd ha (by omega)) ?_
  intro x hh13 σ13 S f P
  obtain ⟨P, QQ, PP⟩ := P
  replace I := QQ.1
  replace U := QQ.2 U
  clear QQ
  replace A_rw := LT_M A_rw f b55_rw
  rw [P]
  clear P
  refine mi_s_if2 (t := 215) rfl rfl rfl (by unfold mi_R; omega) (by unfold mi_R; omega) (fun hc_ => absurd (show (pz t) < (nv t) from hc_) (by omega)) (fun _ => ?_)
  refine mi_wp_p (pc' := 199) (st' := [.ref 0]) rfl rfl rfl ?_
  refine mi_wp_p (pc' := 201) (st' := [.int (Int32.ofInt (a : Int)), .ref 0]) rfl rfl rfl ?_
  refine mi_wp_p (pc' := 202) (st' := [.int (Int32.ofInt 2), .int (Int32.ofInt (a : Int)), .ref 0]) rfl rfl rfl ?_
  refine ls_ti rfl rfl rfl rfl rfl rfl (mi_cal_v2 (np := 2) (args := [.ref 0, .int (Int32.ofInt (a : Int)), .int (Int32.ofInt 2)]) (rest := []) rfl rfl rfl rfl rfl (Nat.le_of_ble_eq_true rfl) rfl rfl (Nat.le_of_ble_eq_true rfl) (ty_rcS S (List.mem_of_getElem? (i := 0) rfl))) (Nat.le_of_ble_eq_true rfl) S (iv_rank (d := 1) I (by omega) hd ha (by omega)) ?_
  intro x hh14 σ14 S f P
  obtain ⟨P, QQ, PP⟩ := P
  replace I := QQ.1
  replace U := QQ.2 U
  clear QQ
  replace A_rw := LT_M A_rw f b55_rw
  rw [P]
  clear P
  refine mi_wp_p (pc' := 206) (st' := [.ref 0, .int (Int32.ofInt (rk t))]) rfl rfl rfl ?_
  refine mi_wp_p (pc' := 208) (st' := [.int (Int32.ofInt (a : Int)), .ref 0, .int (Int32.ofInt (rk t))]) rfl rfl rfl ?_
  refine mi_wp_p (pc' := 209) (st' := [.int (Int32.ofInt 0), .int (Int32.ofInt (a : Int)), .ref 0, .int (Int32.ofInt (rk t))]) rfl rfl rfl ?_
  refine ls_ti rfl rfl rfl rfl rfl rfl (mi_cal_v2 (np := 2) (args := [.ref 0, .int (Int32.ofInt (a : Int)), .int (Int32.ofInt 0)]) (rest := [.int (Int32.ofInt (rk t))]) rfl rfl rfl rfl rfl (Nat.le_of_ble_eq_true rfl) rfl rfl (Nat.le_of_ble_eq_true rfl) (ty_rcS S (List.mem_of_getElem? (i := 0) rfl))) (Nat.le_of_ble_eq_true rfl) S (iv_parts (d := 1) I (by omega) hd ha (by omega)) ?_
  intro x hh15 σ15 S f P
  obtain ⟨P, QQ, PP⟩ := P
  replace I := QQ.1
  replace U := QQ.2 U
  clear QQ
  replace A_rw := LT_M A_rw f b55_rw
  rw [P]
  clear P
  refine mi_s_if2 (t := 217) rfl rfl rfl (by unfold mi_R; omega) (by unfold mi_R; omega) (fun _ => ?_) (fun hc_ => absurd (show (rk t) < (pz t) by omega) hc_)
  refine mi_wp_p (pc' := 218) (st' := [.ref 0]) rfl rfl rfl ?_
  refine mi_wp_p (pc' := 220) (st' := [.int (Int32.ofInt (a : Int)), .ref 0]) rfl rfl rfl ?_
  refine ls_ti rfl rfl rfl rfl rfl rfl (mi_cal_v2 (np := 1) (args := [.ref 0, .int (Int32.ofInt (a : Int))]) (rest := []) rfl rfl rfl rfl rfl (Nat.le_of_ble_eq_true rfl) rfl rfl (Nat.le_of_ble_eq_true rfl) (ty_rcS S (List.mem_of_getElem? (i := 0) rfl))) (Nat.le_of_ble_eq_true rfl) S (iv_write (d := 1) I (by omega) hd ha hwl (by omega)) ?_
  intro x hh16 σ16 S f P
  obtain ⟨P, QQ, PP⟩ := P
  replace I := QQ.1
  replace U := QQ.2 U
  clear QQ
  replace A_rw := LT_M A_rw f b55_rw
  rw [P, ← txt_wl]
  clear P
  refine mi_wp_p (pc' := 225) (l' := [(5, .int (Int32.ofInt ((txt t).length : Int))), (4, .int (Int32.ofInt (a : Int))), (8, .int (Int32.ofInt l8)), (9, .int (Int32.ofInt l9)), (7, .ref o7), (6, .ref o6), (3, .ref nx), (2, .ref rw), (1, .ref 0), (0, .retAddr 3)]) (st' := []) rfl rfl rfl ?_
  refine mi_wp_p (pc' := 227) (st' := [.int (Int32.ofInt ((txt t).length : Int))]) rfl rfl rfl ?_
  have l55_tx := ty_H_55 S
  refine ls_new rfl rfl (by omega) (by omega) ?_
  intro h12_ tx e_tx A_tx f e2_tx
  clear e2_tx
  have b55_tx : 55 ≤ tx := by omega
  have ne_rw_tx : rw ≠ tx := by have := LT_lt A_rw; omega
  replace A_rw := LT_F0 A_rw f
  replace S := ty_H_F0 S f
  refine mi_wp_p (pc' := 231) (l' := [(6, .ref tx), (5, .int (Int32.ofInt ((txt t).length : Int))), (4, .int (Int32.ofInt (a : Int))), (8, .int (Int32.ofInt l8)), (9, .int (Int32.ofInt l9)), (7, .ref o7), (3, .ref nx), (2, .ref rw), (1, .ref 0), (0, .retAddr 3)]) (st' := []) rfl rfl rfl ?_
  refine mi_wp_p (pc' := 232) (st' := [.int (Int32.ofInt 0)]) rfl rfl rfl ?_
  refine mi_wp_p (pc' := 234) (l' := [(7, .int (Int32.ofInt 0)), (6, .ref tx), (5, .int (Int32.ofInt ((txt t).length : Int))), (4, .int (Int32.ofInt (a : Int))), (8, .int (Int32.ofInt l8)), (9, .int (Int32.ofInt l9)), (3, .ref nx), (2, .ref rw), (1, .ref 0), (0, .retAddr 3)]) (st' := []) rfl rfl rfl ?_
  exact kk _ _ tx S I U PP A_tx b55_tx (by omega) A_rw
set_option maxRecDepth 100000 in
set_option maxHeartbeats 1000000 in
theorem body_b1 {l8 l9 : Int} {rw nx a tx : Nat} {t : tr} {bs : List Int} {r : Int} {c s : Nat} {Q : mi_Z → Prop} (S : ty_H h σ) (I : IV σ ds r) (U : US σ) (hr : r ≤ 99000000) (hd : ds.length ≤ 24) (ha : ds[a]? = some (tokY (a + 1), t)) (ha6 : a < 6) (dt : DT t) (hd1 : ∀ (j : Nat) (q : Int64 × tr), j < a → ds[j]? = some q → q.1 ≠ tokY (a + 1)) (hk : a < 6 → tokK (a + 1) = 13) (hlb : a < 6 → (tokB (a + 1)).length ≤ 10) (A_tx : LB h tx (txt t)) (b55_tx : 55 ≤ tx) (A_rw : LT h rw 1200 bs) (b55_rw : 55 ≤ rw)
    (kk : ∀ h' σ' nm c' s', ty_H h' σ' → IV σ' ds (r + 3 + 5) → US σ' → LB h' tx (txt t) → LT h' rw 1200 bs → c' ≤ c + 62 → s' ≤ s + 1206 → mi_wp X 82 mi_ML 343 [(8, .int (Int32.ofInt 0)), (7, .ref nm), (6, .ref tx), (5, .int (Int32.ofInt ((txt t).length : Int))), (4, .int (Int32.ofInt (a : Int))), (9, .int (Int32.ofInt l9)), (3, .ref nx), (2, .ref rw), (1, .ref 0), (0, .retAddr 3)] [] h' c' s' Q) : mi_wp X 82 mi_ML 258 [(7, .int (Int32.ofInt ((txt t).length : Int))), (6, .ref tx), (5, .int (Int32.ofInt ((txt t).length : Int))), (4, .int (Int32.ofInt (a : Int))), (8, .int (Int32.ofInt l8)), (9, .int (Int32.ofInt l9)), (3, .ref nx), (2, .ref rw), (1, .ref 0), (0, .retAddr 3)] [] h c s Q := by
  obtain ⟨hw, hwl, hpz, hnv⟩ := dt
  have hrk := rk_lt _ t (Nat.le_refl _) hw
  have hnp := nv_le hw
  have hn0 : 0 ≤ nv t := Int.natCast_nonneg _
  have hr0 := rk_pz t
  have hlen := txt_wl t
  have htb := txt_b hw (by omega)
  refine mi_s_k (pc' := 260) (e := 6) rfl rfl rfl (by decide +kernel) ?_
  have l55_nm := ty_H_55 S
  refine ls_qnew rfl rfl rfl (by omega) (by omega) ?_
  intro h13_ nm e_nm A_nm f e2_nm
  clear e2_nm
  have b55_nm : 55 ≤ nm := by omega
  have ne_rw_nm : rw ≠ nm := by have := LT_lt A_rw; omega
  have ne_tx_nm : tx ≠ nm := by have := LB_lt A_tx; omega
  replace A_rw := LT_F0 A_rw f
  replace A_tx := LB_F0 A_tx f
  replace S := ty_H_F0 S f
  refine mi_wp_p (pc' := 264) (st' := [.ref nm, .ref nm]) rfl rfl rfl ?_
  refine mi_wp_p (pc' := 265) (st' := [.int (Int32.ofInt 0), .ref nm, .ref nm]) rfl rfl rfl ?_
  refine mi_s_lds (i := 36) rfl rfl rfl rfl rfl ?_
  refine ls_qst A_nm rfl rfl (by omega) (by omega) (by omega) (by decide) ?_
  intro h14_ A_nm f
  replace A_rw := LT_F1 A_rw f (by omega)
  replace A_tx := LB_F1 A_tx f (by omega)
  replace S := ty_H_F1 S f (by omega)
  refine mi_wp_p (pc' := 269) (st' := [.ref nm, .ref nm]) rfl rfl rfl ?_
  refine mi_wp_p (pc' := 270) (st' := [.int (Int32.ofInt 1), .ref nm, .ref nm]) rfl rfl rfl ?_
  refine mi_s_lds (i := 37) rfl rfl rfl rfl rfl ?_
  refine ls_qst A_nm rfl rfl (by omega) (by omega) (by omega) (by decide) ?_
  intro h15_ A_nm f
  replace A_rw := LT_F1 A_rw f (by omega)
  replace A_tx := LB_F1 A_tx f (by omega)
  replace S := ty_H_F1 S f (by omega)
  refine mi_wp_p (pc' := 274) (st' := [.ref nm, .ref nm]) rfl rfl rfl ?_
  refine mi_wp_p (pc' := 275) (st' := [.int (Int32.ofInt 2), .ref nm, .ref nm]) rfl rfl rfl ?_
  refine mi_s_lds (i := 38) rfl rfl rfl rfl rfl ?_
  refine ls_qst A_nm rfl rfl (by omega) (by omega) (by omega) (by decide) ?_
  intro h16_ A_nm f
  replace A_rw := LT_F1 A_rw f (by omega)
  replace A_tx := LB_F1 A_tx f (by omega)
  replace S := ty_H_F1 S f (by omega)
  refine mi_wp_p (pc' := 279) (st' := [.ref nm, .ref nm]) rfl rfl rfl ?_
  refine mi_wp_p (pc' := 280) (st' := [.int (Int32.ofInt 3), .ref nm, .ref nm]) rfl rfl rfl ?_
  refine mi_s_lds (i := 39) rfl rfl rfl rfl rfl ?_
  refine ls_qst A_nm rfl rfl (by omega) (by omega) (by omega) (by decide) ?_
  intro h17_ A_nm f
  replace A_rw := LT_F1 A_rw f (by omega)
  replace A_tx := LB_F1 A_tx f (by omega)
  replace S := ty_H_F1 S f (by omega)
  refine mi_wp_p (pc' := 284) (st' := [.ref nm, .ref nm]) rfl rfl rfl ?_
  refine mi_wp_p (pc' := 285) (st' := [.int (Int32.ofInt 4), .ref nm, .ref nm]) rfl rfl rfl ?_
  refine mi_s_lds (i := 40) rfl rfl rfl rfl rfl ?_
  refine ls_qst A_nm rfl rfl (by omega) (by omega) (by omega) (by decide) ?_
  intro h18_ A_nm f
  replace A_rw := LT_F1 A_rw f (by omega)
  replace A_tx := LB_F1 A_tx f (by omega)
  replace S := ty_H_F1 S f (by omega)
  refine mi_wp_p (pc' := 289) (st' := [.ref nm, .ref nm]) rfl rfl rfl ?_
  refine mi_wp_p (pc' := 290) (st' := [.int (Int32.ofInt 5), .ref nm, .ref nm]) rfl rfl rfl ?_
  refine mi_s_lds (i := 41) rfl rfl rfl rfl rfl ?_
  refine ls_qst A_nm rfl rfl (by omega) (by omega) (by omega) (by decide) ?_
  intro h19_ A_nm f
  replace A_rw := LT_F1 A_rw f (by omega)
  replace A_tx := LB_F1 A_tx f (by omega)
  replace S := ty_H_F1 S f (by omega)
  refine mi_wp_p (pc' := 295) (l' := [(7, .ref nm), (6, .ref tx), (5, .int (Int32.ofInt ((txt t).length : Int))), (4, .int (Int32.ofInt (a : Int))), (8, .int (Int32.ofInt l8)), (9, .int (Int32.ofInt l9)), (3, .ref nx), (2, .ref rw), (1, .ref 0), (0, .retAddr 3)]) (st' := []) rfl rfl rfl ?_
  refine mi_wp_p (pc' := 296) (st' := [.ref 0]) rfl rfl rfl ?_
  refine mi_wp_p (pc' := 298) (st' := [.ref nm, .ref 0]) rfl rfl rfl ?_
  refine mi_wp_p (pc' := 300) (st' := [.int (Int32.ofInt (a : Int)), .ref nm, .ref 0]) rfl rfl rfl ?_
  refine ls_qld (k := (4 * (36 + a))) A_nm rfl rfl (by omega) (by omega) (by omega) (nm_q ha6 rfl) ?_
  refine ls_ci rfl rfl rfl rfl rfl rfl (mi_cal_s2 (np := 2) (args := [.ref 0, .retAddr (4 * (36 + a))]) (rest := []) rfl rfl rfl (Or.inl rfl) rfl (Nat.le_of_ble_eq_true rfl) rfl rfl (Nat.le_of_ble_eq_true rfl)) (Nat.le_of_ble_eq_true rfl) (lw_ask (d := 0) S I (by omega) hd (STR_a ha6) ha (by omega) (hk ha6) (hlb ha6) hd1 (by omega) hwl (by omega)) ?_
  intro x hh17 c1_ s1_ hc1_ hs1_ P
  obtain ⟨P, f, σ17, S1, QQ, PP⟩ := P
  replace A_rw := LT_G A_rw f b55_rw
  replace A_tx := LB_G A_tx f b55_tx
  replace A_nm := LR_G A_nm f b55_nm
  clear S
  have S := S1
  clear S1
  replace I := QQ.1
  replace U := QQ.2 U
  clear QQ
  rw [P]
  clear P
  refine mi_s_if1 (t := 338) rfl rfl rfl (by unfold mi_R; omega) (fun hc_ => absurd (show (0 : Int) ≠ 0 from hc_) (by omega)) (fun _ => ?_)
  refine mi_wp_p (pc' := 308) (st' := [.ref 0]) rfl rfl rfl ?_
  refine mi_wp_p (pc' := 310) (st' := [.ref tx, .ref 0]) rfl rfl rfl ?_
  refine ls_ci rfl rfl rfl rfl rfl rfl (mi_cal_s2 (np := 2) (args := [.ref 0, .ref tx]) (rest := []) rfl rfl rfl (Or.inl rfl) rfl (Nat.le_of_ble_eq_true rfl) rfl rfl (Nat.le_of_ble_eq_true rfl)) (Nat.le_of_ble_eq_true rfl) (lw_paper (d := 78) S A_tx b55_tx PP (by omega) (by omega) htb htb) ?_
  intro x hh18 c_ s_ hc_ hs_ P
  obtain rfl : c_ = 0 := by omega
  obtain rfl : s_ = 0 := by omega
  obtain ⟨P, S, f⟩ := P
  replace P : x = 1 := P.elim (fun q => q.1) (fun q => (q.2 rfl).elim)
  replace A_rw := LT_M A_rw f b55_rw
  replace A_tx := LB_M A_tx f b55_tx
  replace A_nm := LR_M A_nm f b55_nm
  rw [P]
  clear P
  refine mi_s_if1 (t := 338) rfl rfl rfl (by unfold mi_R; omega) (fun hc_ => absurd (show (1 : Int) = 0 from hc_) (by omega)) (fun _ => ?_)
  refine mi_wp_p (pc' := 317) (st' := [.ref 0]) rfl rfl rfl ?_
  refine mi_wp_p (pc' := 319) (st' := [.int (Int32.ofInt (a : Int)), .ref 0]) rfl rfl rfl ?_
  refine mi_wp_p (pc' := 321) (st' := [.int (Int32.ofInt (a : Int)), .int (Int32.ofInt (a : Int)), .ref 0]) rfl rfl rfl ?_
  refine ls_ti rfl rfl rfl rfl rfl rfl (mi_cal_v2 (np := 2) (args := [.ref 0, .int (Int32.ofInt (a : Int)), .int (Int32.ofInt (a : Int))]) (rest := []) rfl rfl rfl rfl rfl (Nat.le_of_ble_eq_true rfl) rfl rfl (Nat.le_of_ble_eq_true rfl) (ty_rcS S (List.mem_of_getElem? (i := 0) rfl))) (Nat.le_of_ble_eq_true rfl) S (iv_meet (d := 1) I (by omega) hd ha hw hwl (by omega) hnv) ?_
  intro x hh19 σ19 S f P
  obtain ⟨P, QQ, PP⟩ := P
  replace I := QQ.1
  replace U := QQ.2 U
  clear QQ
  replace A_rw := LT_M A_rw f b55_rw
  replace A_tx := LB_M A_tx f b55_tx
  replace A_nm := LR_M A_nm f b55_nm
  rw [P, ← txt_wl]
  clear P
  refine mi_wp_p (pc' := 326) (st' := [.int (Int32.ofInt ((txt t).length : Int)), .int (Int32.ofInt ((txt t).length : Int))]) rfl rfl rfl ?_
  refine mi_s_if2 (t := 338) rfl rfl rfl (by unfold mi_R; omega) (by unfold mi_R; omega) (fun hc_ => absurd (show ((txt t).length : Int) ≠ ((txt t).length : Int) from hc_) (by omega)) (fun _ => ?_)
  refine mi_wp_p (pc' := 330) (st' := [.ref 0]) rfl rfl rfl ?_
  refine mi_wp_p (pc' := 332) (st' := [.ref tx, .ref 0]) rfl rfl rfl ?_
  refine ls_ci rfl rfl rfl rfl rfl rfl (mi_cal_s2 (np := 2) (args := [.ref 0, .ref tx]) (rest := []) rfl rfl rfl (Or.inl rfl) rfl (Nat.le_of_ble_eq_true rfl) rfl rfl (Nat.le_of_ble_eq_true rfl)) (Nat.le_of_ble_eq_true rfl) (lw_paper (d := 78) S A_tx b55_tx PP (by omega) (by omega) htb htb) ?_
  intro x hh20 c_ s_ hc_ hs_ P
  obtain rfl : c_ = 0 := by omega
  obtain rfl : s_ = 0 := by omega
  obtain ⟨P, S, f⟩ := P
  replace P : x = 1 := P.elim (fun q => q.1) (fun q => (q.2 rfl).elim)
  replace A_rw := LT_M A_rw f b55_rw
  replace A_tx := LB_M A_tx f b55_tx
  replace A_nm := LR_M A_nm f b55_nm
  rw [P]
  clear P
  refine mi_s_if1 (t := 340) rfl rfl rfl (by unfold mi_R; omega) (fun _ => ?_) (fun hc_ => absurd (show (1 : Int) ≠ 0 by omega) hc_)
  refine mi_wp_p (pc' := 341) (st' := [.int (Int32.ofInt 0)]) rfl rfl rfl ?_
  refine mi_wp_p (pc' := 343) (l' := [(8, .int (Int32.ofInt 0)), (7, .ref nm), (6, .ref tx), (5, .int (Int32.ofInt ((txt t).length : Int))), (4, .int (Int32.ofInt (a : Int))), (9, .int (Int32.ofInt l9)), (3, .ref nx), (2, .ref rw), (1, .ref 0), (0, .retAddr 3)]) (st' := []) rfl rfl rfl ?_
  exact kk _ _ nm _ _ S I U A_tx A_rw (by omega) (by omega)
end LW
