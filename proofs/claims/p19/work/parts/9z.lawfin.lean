/-! ===== the law's end (printed by wip/gen/p_law12.py) ===== -/
section LW
variable {X : mi_X} {h : mi_H} {σ : mi_Sg} {ds : List (Int64 × tr)}
set_option maxRecDepth 100000 in
theorem fin_a {rw nx nm o6 : Nat} {t : tr} {l5 l9 : Int} {bs : List Int} {c s : Nat} {Q : mi_Z → Prop} {r : Int} (S : ty_H h σ) (I : IV σ ds r) (hr : r ≤ 2000000) (hd : ds.length ≤ 24) (h3 : ds[3]? = some (tokY 4, t)) (dt : DT t) (A_rw : LT h rw 1200 bs) (b55_rw : 55 ≤ rw)
    (kk : ∀ h' σ' tx, ty_H h' σ' → IV σ' ds (r + 1) → rwl σ' 53 5 (txt t) → LA h' tx ((txt t).length : Int).toNat (fun _ => 0) → 55 ≤ tx → rw ≠ tx → LT h' rw 1200 bs → mi_wp X 82 mi_ML 595 [(6, .int (Int32.ofInt 0)), (5, .ref tx), (4, .int (Int32.ofInt ((txt t).length : Int))), (8, .int (Int32.ofInt 6)), (9, .int (Int32.ofInt l9)), (7, .ref nm), (3, .ref nx), (2, .ref rw), (1, .ref 0), (0, .retAddr 3)] [] h' (c + 1) (s + ((txt t).length : Int).toNat) Q) : mi_wp X 82 mi_ML 579 [(4, .int (Int32.ofInt 6)), (8, .int (Int32.ofInt 6)), (9, .int (Int32.ofInt l9)), (7, .ref nm), (6, .ref o6), (5, .int (Int32.ofInt l5)), (3, .ref nx), (2, .ref rw), (1, .ref 0), (0, .retAddr 3)] [] h c s Q := by
  have hlen := txt_wl t
  have hl4 := dt.2.1
  refine mi_wp_p (pc' := 580) (st' := [.ref 0]) rfl rfl rfl ?_
  refine mi_wp_p (pc' := 581) (st' := [.int (Int32.ofInt 3), .ref 0]) rfl rfl rfl ?_
  refine ls_ti rfl rfl rfl rfl rfl rfl (mi_cal_v2 (np := 1) (args := [.ref 0, .int (Int32.ofInt 3)]) (rest := []) rfl rfl rfl rfl rfl (Nat.le_of_ble_eq_true rfl) rfl rfl (Nat.le_of_ble_eq_true rfl) (ty_rcS S (List.mem_of_getElem? (i := 0) rfl))) (Nat.le_of_ble_eq_true rfl) S (iv_write (d := 1) (a := 3) I (by omega) hd h3 dt.2.1 (by have := dt.2.2.2; omega)) ?_
  intro x hh1 σ1 S f P
  obtain ⟨P, QQ, PP⟩ := P
  replace I := QQ.1
  clear QQ
  replace A_rw := LT_M A_rw f b55_rw
  rw [P, ← txt_wl]
  clear P
  refine mi_wp_p (pc' := 586) (l' := [(4, .int (Int32.ofInt ((txt t).length : Int))), (8, .int (Int32.ofInt 6)), (9, .int (Int32.ofInt l9)), (7, .ref nm), (6, .ref o6), (5, .int (Int32.ofInt l5)), (3, .ref nx), (2, .ref rw), (1, .ref 0), (0, .retAddr 3)]) (st' := []) rfl rfl rfl ?_
  refine mi_wp_p (pc' := 588) (st' := [.int (Int32.ofInt ((txt t).length : Int))]) rfl rfl rfl ?_
  have l55_tx := ty_H_55 S
  refine ls_new rfl rfl (by omega) (by omega) ?_
  intro h1_ tx e_tx A_tx f e2_tx
  clear e2_tx
  have b55_tx : 55 ≤ tx := by omega
  have ne_rw_tx : rw ≠ tx := by have := LT_lt A_rw; omega
  replace A_rw := LT_F0 A_rw f
  replace S := ty_H_F0 S f
  refine mi_wp_p (pc' := 592) (l' := [(5, .ref tx), (4, .int (Int32.ofInt ((txt t).length : Int))), (8, .int (Int32.ofInt 6)), (9, .int (Int32.ofInt l9)), (7, .ref nm), (6, .ref o6), (3, .ref nx), (2, .ref rw), (1, .ref 0), (0, .retAddr 3)]) (st' := []) rfl rfl rfl ?_
  refine mi_wp_p (pc' := 593) (st' := [.int (Int32.ofInt 0)]) rfl rfl rfl ?_
  refine mi_wp_p (pc' := 595) (l' := [(6, .int (Int32.ofInt 0)), (5, .ref tx), (4, .int (Int32.ofInt ((txt t).length : Int))), (8, .int (Int32.ofInt 6)), (9, .int (Int32.ofInt l9)), (7, .ref nm), (3, .ref nx), (2, .ref rw), (1, .ref 0), (0, .retAddr 3)]) (st' := []) rfl rfl rfl ?_
  exact kk _ _ tx S I PP A_tx b55_tx (by omega) A_rw
set_option maxRecDepth 100000 in
theorem fin_b {rw nx nm tx : Nat} {z l8 l9 : Int} {bs l : List Int} {c s : Nat} {Q : mi_Z → Prop} (S : ty_H h σ) (A_tx : LB h tx l) (b55_tx : 55 ≤ tx) (A_rw : LT h rw 1200 bs) (b55_rw : 55 ≤ rw) (ne : rw ≠ tx) (hl : bs.length ≤ 700)
    (kk : ∀ h', ty_H h' σ → LB h' tx l → LT h' rw 1200 (bs ++ [32, 100, 101, 102, 32, 119, 32, 58, 32]) → mi_wp X 82 mi_ML 628 [(6, .int (Int32.ofInt 0)), (5, .ref tx), (4, .int (Int32.ofInt z)), (8, .int (Int32.ofInt l8)), (9, .int (Int32.ofInt l9)), (7, .ref nm), (3, .ref nx), (2, .ref rw), (1, .ref 0), (0, .retAddr 3)] [] h' c s Q) : mi_wp X 82 mi_ML 619 [(6, .int (Int32.ofInt z)), (5, .ref tx), (4, .int (Int32.ofInt z)), (8, .int (Int32.ofInt l8)), (9, .int (Int32.ofInt l9)), (7, .ref nm), (3, .ref nx), (2, .ref rw), (1, .ref 0), (0, .retAddr 3)] [] h c s Q := by
  refine mi_wp_p (pc' := 620) (st' := [.ref rw]) rfl rfl rfl ?_
  refine mi_s_lds (i := 42) rfl rfl rfl rfl rfl ?_
  refine ls_cv rfl rfl rfl rfl rfl rfl (mi_cal_s2 (np := 2) (args := [.ref rw, .retAddr 168]) (rest := []) rfl rfl rfl (Or.inl rfl) rfl (Nat.le_of_ble_eq_true rfl) rfl rfl (Nat.le_of_ble_eq_true rfl)) (Nat.le_of_ble_eq_true rfl) (lw_puts (d := 77) STR_42 A_rw (by simp only [List.length_cons, List.length_nil]; omega) (by decide)) ?_
  intro hh2 c_ s_ hc_ hs_ P
  obtain rfl : c_ = 0 := by omega
  obtain rfl : s_ = 0 := by omega
  obtain ⟨A_rw, f⟩ := P
  replace A_tx := LB_F1 A_tx f (by omega)
  replace S := ty_H_F1 S f (by omega)
  refine mi_wp_p (pc' := 626) (st' := [.int (Int32.ofInt 0)]) rfl rfl rfl ?_
  refine mi_wp_p (pc' := 628) (l' := [(6, .int (Int32.ofInt 0)), (5, .ref tx), (4, .int (Int32.ofInt z)), (8, .int (Int32.ofInt l8)), (9, .int (Int32.ofInt l9)), (7, .ref nm), (3, .ref nx), (2, .ref rw), (1, .ref 0), (0, .retAddr 3)]) (st' := []) rfl rfl rfl ?_
  exact kk _ S A_tx A_rw
set_option maxRecDepth 100000 in
theorem fin_turn {rw nx nm tx k : Nat} {z b l8 l9 : Int} {bs l : List Int} {g2 : Nat → Int} {c s : Nat} {Q : mi_Z → Prop} (S : ty_H h σ) (A_tx : LA h tx l.length g2) (b55_tx : 55 ≤ tx) (A_r : LT h rw 1200 bs) (b55_rw : 55 ≤ rw) (ne : rw ≠ tx) (hl : bs.length ≤ 1150) (hl2 : l.length ≤ 400) (hz : z = (l.length : Int)) (hk : k < l.length) (eb : g2 ((k : Int)).toNat = b)
    (kk : ∀ h', ty_H h' σ → LA h' tx l.length g2 → LT h' rw 1200 (bs ++ [b]) → mi_wp X 82 mi_ML 628 [(6, .int (Int32.ofInt ((k : Int) + 1))), (5, .ref tx), (4, .int (Int32.ofInt z)), (8, .int (Int32.ofInt l8)), (9, .int (Int32.ofInt l9)), (7, .ref nm), (3, .ref nx), (2, .ref rw), (1, .ref 0), (0, .retAddr 3)] [] h' c s Q) : mi_wp X 82 mi_ML 628 [(6, .int (Int32.ofInt (k : Int))), (5, .ref tx), (4, .int (Int32.ofInt z)), (8, .int (Int32.ofInt l8)), (9, .int (Int32.ofInt l9)), (7, .ref nm), (3, .ref nx), (2, .ref rw), (1, .ref 0), (0, .retAddr 3)] [] h c s Q := by
  obtain ⟨g, A_rw, h0_, gb⟩ := A_r
  have h1_ : (va_up g (1 + (bs.length : Int)).toNat b) (0 : Int).toNat = (bs.length : Int) := by rw [va_up_ne _ _ (by show (0 : Int).toNat ≠ _; simp; omega)]; exact h0_
  refine mi_wp_p (pc' := 630) (st' := [.int (Int32.ofInt (k : Int))]) rfl rfl rfl ?_
  refine mi_wp_p (pc' := 632) (st' := [.int (Int32.ofInt z), .int (Int32.ofInt (k : Int))]) rfl rfl rfl ?_
  refine mi_s_if2 (t := 660) rfl rfl rfl (by unfold mi_R; omega) (by unfold mi_R; omega) (fun hc_ => absurd (show z ≤ (k : Int) from hc_) (by omega)) (fun _ => ?_)
  refine mi_wp_p (pc' := 636) (st' := [.ref rw]) rfl rfl rfl ?_
  refine mi_wp_p (pc' := 637) (st' := [.int (Int32.ofInt 1), .ref rw]) rfl rfl rfl ?_
  refine mi_wp_p (pc' := 638) (st' := [.ref rw, .int (Int32.ofInt 1), .ref rw]) rfl rfl rfl ?_
  refine mi_wp_p (pc' := 639) (st' := [.int (Int32.ofInt 0), .ref rw, .int (Int32.ofInt 1), .ref rw]) rfl rfl rfl ?_
  refine ls_ald (x := (bs.length : Int)) A_rw rfl rfl (by decide) (by omega) (by omega) h0_ ?_
  refine mi_s_add rfl rfl ?_
  refine mi_wp_p (pc' := 643) (st' := [.ref tx, .int (Int32.ofInt (1 + (bs.length : Int))), .ref rw]) rfl rfl rfl ?_
  refine mi_wp_p (pc' := 645) (st' := [.int (Int32.ofInt (k : Int)), .ref tx, .int (Int32.ofInt (1 + (bs.length : Int))), .ref rw]) rfl rfl rfl ?_
  refine ls_ald (x := b) A_tx rfl rfl (by omega) (by omega) (by omega) eb ?_
  refine ls_ast A_rw rfl rfl (by decide) (by omega) (by omega) ?_
  intro h2_ A_rw f
  replace A_tx := LA_F1 A_tx f (by omega)
  replace S := ty_H_F1 S f (by omega)
  refine mi_wp_p (pc' := 648) (st' := [.ref rw]) rfl rfl rfl ?_
  refine mi_wp_p (pc' := 649) (st' := [.int (Int32.ofInt 0), .ref rw]) rfl rfl rfl ?_
  refine mi_wp_p (pc' := 650) (st' := [.int (Int32.ofInt 0), .ref rw, .int (Int32.ofInt 0), .ref rw]) rfl rfl rfl ?_
  refine ls_ald (x := (bs.length : Int)) A_rw rfl rfl (by decide) (by omega) (by omega) h1_ ?_
  refine mi_wp_p (pc' := 652) (st' := [.int (Int32.ofInt 1), .int (Int32.ofInt (bs.length : Int)), .int (Int32.ofInt 0), .ref rw]) rfl rfl rfl ?_
  refine mi_s_add rfl rfl ?_
  refine ls_ast A_rw rfl rfl (by decide) (by omega) (by omega) ?_
  intro h3_ A_rw f
  replace A_tx := LA_F1 A_tx f (by omega)
  replace S := ty_H_F1 S f (by omega)
  refine mi_s_inc (l' := [(6, .int (Int32.ofInt ((k : Int) + 1))), (5, .ref tx), (4, .int (Int32.ofInt z)), (8, .int (Int32.ofInt l8)), (9, .int (Int32.ofInt l9)), (7, .ref nm), (3, .ref nx), (2, .ref rw), (1, .ref 0), (0, .retAddr 3)]) rfl rfl rfl (by decide) rfl ?_
  refine mi_wp_p (pc' := 628) rfl rfl rfl ?_
  exact kk _ S A_tx (lt_push A_rw rfl h0_ gb rfl)
set_option maxRecDepth 100000 in
theorem fin_stop {rw nx nm tx : Nat} {z l8 l9 : Int} {l : List Int} {c s : Nat} {Q : mi_Z → Prop} (hl2 : l.length ≤ 400) (hz : z = (l.length : Int)) (kk : mi_wp X 82 mi_ML 660 [(6, .int (Int32.ofInt (l.length : Int))), (5, .ref tx), (4, .int (Int32.ofInt z)), (8, .int (Int32.ofInt l8)), (9, .int (Int32.ofInt l9)), (7, .ref nm), (3, .ref nx), (2, .ref rw), (1, .ref 0), (0, .retAddr 3)] [] h c s Q) : mi_wp X 82 mi_ML 628 [(6, .int (Int32.ofInt (l.length : Int))), (5, .ref tx), (4, .int (Int32.ofInt z)), (8, .int (Int32.ofInt l8)), (9, .int (Int32.ofInt l9)), (7, .ref nm), (3, .ref nx), (2, .ref rw), (1, .ref 0), (0, .retAddr 3)] [] h c s Q := by
  refine mi_wp_p (pc' := 630) (st' := [.int (Int32.ofInt (l.length : Int))]) rfl rfl rfl ?_
  refine mi_wp_p (pc' := 632) (st' := [.int (Int32.ofInt z), .int (Int32.ofInt (l.length : Int))]) rfl rfl rfl ?_
  refine mi_s_if2 (t := 660) rfl rfl rfl (by unfold mi_R; omega) (by unfold mi_R; omega) (fun _ => ?_) (fun hc_ => absurd (show z ≤ (l.length : Int) by omega) hc_)
  exact kk
set_option maxRecDepth 100000 in
theorem fin_loop {rw nx nm tx : Nat} {z l8 l9 : Int} {bs l : List Int} {g2 : Nat → Int} {c s : Nat} {Q : mi_Z → Prop} (b55_tx : 55 ≤ tx) (b55_rw : 55 ≤ rw) (ne : rw ≠ tx) (hl : bs.length ≤ 700) (hl2 : l.length ≤ 400) (hz : z = (l.length : Int)) (hg : ∀ (i : Nat) (b : Int), l[i]? = some b → g2 i = b)
    (kk : ∀ h', ty_H h' σ → LB h' tx l → LT h' rw 1200 (bs ++ l) → mi_wp X 82 mi_ML 660 [(6, .int (Int32.ofInt (l.length : Int))), (5, .ref tx), (4, .int (Int32.ofInt z)), (8, .int (Int32.ofInt l8)), (9, .int (Int32.ofInt l9)), (7, .ref nm), (3, .ref nx), (2, .ref rw), (1, .ref 0), (0, .retAddr 3)] [] h' c s Q) : ∀ (m k : Nat), m + k = l.length → ∀ h : mi_H, ty_H h σ → LA h tx l.length g2 → LT h rw 1200 (bs ++ l.take k) → mi_wp X 82 mi_ML 628 [(6, .int (Int32.ofInt (k : Int))), (5, .ref tx), (4, .int (Int32.ofInt z)), (8, .int (Int32.ofInt l8)), (9, .int (Int32.ofInt l9)), (7, .ref nm), (3, .ref nx), (2, .ref rw), (1, .ref 0), (0, .retAddr 3)] [] h c s Q := by
  intro m
  induction m with
  | zero =>
    intro k hk h S A R
    obtain rfl : k = l.length := by omega
    rw [List.take_length] at R
    exact fin_stop hl2 hz (kk h S ⟨g2, A, hg⟩ R)
  | succ m ih =>
    intro k hk h S A R
    have hlt : k < l.length := by omega
    refine fin_turn (b := l[k]) S A b55_tx R b55_rw ne (by rw [List.length_append, List.length_take]; omega) hl2 hz hlt (by rw [Int.toNat_natCast]; exact hg k _ (List.getElem?_eq_getElem hlt)) (fun h' S' A' R' => ?_)
    rw [List.append_assoc, ← List.take_succ_eq_append_getElem hlt] at R'
    rw [show (k : Int) + 1 = ((k + 1 : Nat) : Int) by omega]
    exact ih (k + 1) (by omega) h' S' A' R'
/-- what the second compile leaves -/
def M7 (l : List Int) (x : Int) (σ2 : mi_Sg) : Prop := x = 0 ∧ ∃ (ds7 : List (Int64 × tr)) (tw t3 : tr) (r7 : Int), ds7.length = 7 ∧ IV σ2 ds7 r7 ∧ r7 ≤ 2000000 ∧ ds7[6]? = some (119, tw) ∧ ds7[3]? = some (tokY 4, t3) ∧ DT tw ∧ DT t3 ∧ txt tw = l ∧ inst tw t3 ∧ inst t3 tw
set_option maxRecDepth 100000 in
set_option maxHeartbeats 1000000 in
theorem fin_c {rw nx nm tx : Nat} {z l8 l9 : Int} {bs l tx2 : List Int} {c s : Nat} (S : ty_H h σ) (A_tx : LB h tx l) (b55_tx : 55 ≤ tx) (A_rw : LT h rw 1200 bs) (b55_rw : 55 ≤ rw) (ne : rw ≠ tx) (hl : bs.length ≤ 1150) (hl2 : l.length ≤ 400) (hz : z = (l.length : Int)) (htb : ∀ b ∈ l, 0 ≤ b ∧ b < 128) (etx : bs ++ [32, 61, 32, 101, 59] = tx2) (ht : tx2.length ≤ 1180) (ht0 : 0 < tx2.length) (htb2 : ∀ b ∈ tx2, 0 ≤ b ∧ b < 128) (s0 : mi_sF σ 0 10 = 0) (hc : c ≤ 2000) (hs : s ≤ 100000)
    (cmp : ∀ σ1, LYQ σ tx2 σ1 → ty_Ci X 81 mi_M5 [(0, .ref 0)] σ1 (M7 l)) : mi_wp X 82 mi_ML 660 [(6, .int (Int32.ofInt z)), (5, .ref tx), (4, .int (Int32.ofInt z)), (8, .int (Int32.ofInt l8)), (9, .int (Int32.ofInt l9)), (7, .ref nm), (3, .ref nx), (2, .ref rw), (1, .ref 0), (0, .retAddr 3)] [] h c s (fun z => ∃ h' c' s', z = (.inl (some (.int (Int32.ofInt 1))), h', c', s') ∧ c' ≤ 3000 ∧ s' ≤ 110000) := by
  refine mi_wp_p (pc' := 661) (st' := [.ref rw]) rfl rfl rfl ?_
  refine mi_s_lds (i := 43) rfl rfl rfl rfl rfl ?_
  refine ls_cv rfl rfl rfl rfl rfl rfl (mi_cal_s2 (np := 2) (args := [.ref rw, .retAddr 172]) (rest := []) rfl rfl rfl (Or.inl rfl) rfl (Nat.le_of_ble_eq_true rfl) rfl rfl (Nat.le_of_ble_eq_true rfl)) (Nat.le_of_ble_eq_true rfl) (lw_puts (d := 77) STR_43 A_rw (by simp only [List.length_cons, List.length_nil]; omega) (by decide)) ?_
  intro hh3 c_ s_ hc_ hs_ P
  obtain rfl : c_ = 0 := by omega
  obtain rfl : s_ = 0 := by omega
  obtain ⟨A_rw, f⟩ := P
  replace A_tx := LB_F1 A_tx f (by omega)
  replace S := ty_H_F1 S f (by omega)
  replace A_rw := LT_e A_rw etx
  refine mi_wp_p (pc' := 667) (st' := [.ref 0]) rfl rfl rfl ?_
  refine mi_wp_p (pc' := 668) (st' := [.ref rw, .ref 0]) rfl rfl rfl ?_
  refine ls_ci rfl rfl rfl rfl rfl rfl (mi_cal_s2 (np := 2) (args := [.ref 0, .ref rw]) (rest := []) rfl rfl rfl (Or.inl rfl) rfl (Nat.le_of_ble_eq_true rfl) rfl rfl (Nat.le_of_ble_eq_true rfl)) (Nat.le_of_ble_eq_true rfl) (lw_lay (d := 78) S A_rw b55_rw (by decide) (by omega) ht0 htb2 s0) ?_
  intro x hh4 c1_ s1_ hc1_ hs1_ P
  obtain ⟨P, f, σ1, S1, Q1⟩ := P
  replace A_rw := LT_G A_rw f b55_rw
  replace A_tx := LB_G A_tx f b55_tx
  rw [P]
  clear P S
  have S := S1
  clear S1
  refine mi_s_if1 (t := 735) rfl rfl rfl (by unfold mi_R; omega) (fun hc_ => absurd (show (1 : Int) = 0 from hc_) (by omega)) (fun _ => ?_)
  refine mi_wp_p (pc' := 675) (st' := [.ref 0]) rfl rfl rfl ?_
  refine ls_ti rfl rfl rfl rfl rfl rfl (mi_cal_v2 (np := 0) (args := [.ref 0]) (rest := []) rfl rfl rfl rfl rfl (Nat.le_of_ble_eq_true rfl) rfl rfl (Nat.le_of_ble_eq_true rfl) (ty_rcS S (List.mem_of_getElem? (i := 0) rfl))) (Nat.le_of_ble_eq_true rfl) S (cmp σ1 Q1) ?_
  intro x hh5 σ2 S f P
  obtain ⟨P, ds7, tw, t3, r7, hd7, I, hr7, h6, h3, dw, d3, etx7, i1, i2⟩ := P
  obtain ⟨hww, hwlw, hpw, hnw⟩ := dw
  have hp3 := d3.2.2.1
  have hlw := txt_wl tw
  have htw := txt_b hww (by omega)
  replace A_rw := LT_M A_rw f b55_rw
  replace A_tx := LB_M A_tx f b55_tx
  rw [P]
  clear P
  refine mi_s_if1 (t := 735) rfl rfl rfl (by unfold mi_R; omega) (fun hc_ => absurd (show (0 : Int) ≠ 0 from hc_) (by omega)) (fun _ => ?_)
  refine mi_wp_p (pc' := 682) (st' := [.ref 0]) rfl rfl rfl ?_
  refine mi_wp_p (pc' := 683) (st' := [.int (Int32.ofInt 2), .ref 0]) rfl rfl rfl ?_
  refine ls_ti rfl rfl rfl rfl rfl rfl (mi_cal_v2 (np := 1) (args := [.ref 0, .int (Int32.ofInt 2)]) (rest := []) rfl rfl rfl rfl rfl (Nat.le_of_ble_eq_true rfl) rfl rfl (Nat.le_of_ble_eq_true rfl) (ty_rcS S (List.mem_of_getElem? (i := 0) rfl))) (Nat.le_of_ble_eq_true rfl) S tl_count2 ?_
  intro x hh6 σ3 S f P
  obtain ⟨P, P2⟩ := P
  rw [P2] at S
  clear P2
  replace A_rw := LT_M A_rw f b55_rw
  replace A_tx := LB_M A_tx f b55_tx
  rw [P, I.1.2.2.1, hd7, show ((7 : Nat) : Int) = 7 from rfl]
  clear P
  refine mi_s_k (pc' := 688) (e := 7) rfl rfl rfl (by decide +kernel) ?_
  refine mi_s_if2 (t := 735) rfl rfl rfl (by unfold mi_R; omega) (by unfold mi_R; omega) (fun hc_ => absurd (show (7 : Int) ≠ 7 from hc_) (by omega)) (fun _ => ?_)
  refine mi_wp_p (pc' := 692) (st' := [.ref 0]) rfl rfl rfl ?_
  refine mi_s_k (pc' := 694) (e := 6) rfl rfl rfl (by decide +kernel) ?_
  refine ls_ti rfl rfl rfl rfl rfl rfl (mi_cal_v2 (np := 1) (args := [.ref 0, .int (Int32.ofInt 6)]) (rest := []) rfl rfl rfl rfl rfl (Nat.le_of_ble_eq_true rfl) rfl rfl (Nat.le_of_ble_eq_true rfl) (ty_rcS S (List.mem_of_getElem? (i := 0) rfl))) (Nat.le_of_ble_eq_true rfl) S (iv_write (d := 1) (a := 6) I (by omega) (by omega) h6 hwlw (by omega)) ?_
  intro x hh7 σ7 S f P
  obtain ⟨P, QQ, PP⟩ := P
  replace I := QQ.1
  clear QQ
  replace A_rw := LT_M A_rw f b55_rw
  replace A_tx := LB_M A_tx f b55_tx
  rw [P, ← txt_wl, etx7, ← hz]
  clear P
  refine mi_wp_p (pc' := 699) (st' := [.int (Int32.ofInt z), .int (Int32.ofInt z)]) rfl rfl rfl ?_
  refine mi_s_if2 (t := 735) rfl rfl rfl (by unfold mi_R; omega) (by unfold mi_R; omega) (fun hc_ => absurd (show z ≠ z from hc_) (by omega)) (fun _ => ?_)
  refine mi_wp_p (pc' := 703) (st' := [.ref 0]) rfl rfl rfl ?_
  refine mi_wp_p (pc' := 705) (st' := [.ref tx, .ref 0]) rfl rfl rfl ?_
  refine ls_ci rfl rfl rfl rfl rfl rfl (mi_cal_s2 (np := 2) (args := [.ref 0, .ref tx]) (rest := []) rfl rfl rfl (Or.inl rfl) rfl (Nat.le_of_ble_eq_true rfl) rfl rfl (Nat.le_of_ble_eq_true rfl)) (Nat.le_of_ble_eq_true rfl) (lw_paper (d := 78) S A_tx b55_tx PP (by omega) (by omega) htw htb) ?_
  intro x hh8 c_ s_ hc_ hs_ P
  obtain rfl : c_ = 0 := by omega
  obtain rfl : s_ = 0 := by omega
  obtain ⟨P, S, f⟩ := P
  replace P : x = 1 := P.elim (fun q => q.1) (fun q => (q.2 etx7).elim)
  replace A_rw := LT_M A_rw f b55_rw
  replace A_tx := LB_M A_tx f b55_tx
  rw [P]
  clear P
  refine mi_s_if1 (t := 735) rfl rfl rfl (by unfold mi_R; omega) (fun hc_ => absurd (show (1 : Int) = 0 from hc_) (by omega)) (fun _ => ?_)
  refine mi_wp_p (pc' := 712) (st' := [.ref 0]) rfl rfl rfl ?_
  refine mi_s_k (pc' := 714) (e := 6) rfl rfl rfl (by decide +kernel) ?_
  refine mi_wp_p (pc' := 715) (st' := [.int (Int32.ofInt 3), .int (Int32.ofInt 6), .ref 0]) rfl rfl rfl ?_
  refine ls_ti rfl rfl rfl rfl rfl rfl (mi_cal_v2 (np := 2) (args := [.ref 0, .int (Int32.ofInt 6), .int (Int32.ofInt 3)]) (rest := []) rfl rfl rfl rfl rfl (Nat.le_of_ble_eq_true rfl) rfl rfl (Nat.le_of_ble_eq_true rfl) (ty_rcS S (List.mem_of_getElem? (i := 0) rfl))) (Nat.le_of_ble_eq_true rfl) S (iv_covers (d := 1) (a := 6) (b := 3) I (by omega) (by omega) h6 h3 (by omega)) ?_
  intro x hh9 σ9 S f P
  obtain ⟨P, QQ, -⟩ := P
  replace I := QQ.1
  clear QQ
  replace P : x = 1 := P.elim (fun q => q.1) (fun q => (q.2 i1).elim)
  replace A_rw := LT_M A_rw f b55_rw
  replace A_tx := LB_M A_tx f b55_tx
  rw [P]
  clear P
  refine mi_s_if1 (t := 735) rfl rfl rfl (by unfold mi_R; omega) (fun hc_ => absurd (show (1 : Int) = 0 from hc_) (by omega)) (fun _ => ?_)
  refine mi_wp_p (pc' := 722) (st' := [.ref 0]) rfl rfl rfl ?_
  refine mi_wp_p (pc' := 723) (st' := [.int (Int32.ofInt 3), .ref 0]) rfl rfl rfl ?_
  refine mi_s_k (pc' := 725) (e := 6) rfl rfl rfl (by decide +kernel) ?_
  refine ls_ti rfl rfl rfl rfl rfl rfl (mi_cal_v2 (np := 2) (args := [.ref 0, .int (Int32.ofInt 3), .int (Int32.ofInt 6)]) (rest := []) rfl rfl rfl rfl rfl (Nat.le_of_ble_eq_true rfl) rfl rfl (Nat.le_of_ble_eq_true rfl) (ty_rcS S (List.mem_of_getElem? (i := 0) rfl))) (Nat.le_of_ble_eq_true rfl) S (iv_covers (d := 1) (a := 3) (b := 6) I (by omega) (by omega) h3 h6 (by omega)) ?_
  intro x hh10 σ10 S f P
  obtain ⟨P, QQ, -⟩ := P
  replace I := QQ.1
  clear QQ
  replace P : x = 1 := P.elim (fun q => q.1) (fun q => (q.2 i2).elim)
  replace A_rw := LT_M A_rw f b55_rw
  replace A_tx := LB_M A_tx f b55_tx
  rw [P]
  clear P
  refine mi_s_if1 (t := 735) rfl rfl rfl (by unfold mi_R; omega) (fun hc_ => absurd (show (1 : Int) = 0 from hc_) (by omega)) (fun _ => ?_)
  refine mi_wp_p (pc' := 732) (st' := [.int (Int32.ofInt 1)]) rfl rfl rfl ?_
  refine mi_wp_p (pc' := 736) rfl rfl rfl ?_
  exact mi_wp_r rfl rfl rfl rfl ⟨_, _, _, rfl, by omega, by omega⟩
end LW
