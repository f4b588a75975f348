/-! ===== a token from its bytes (printed by wip/gen/p_words.py) ===== -/
def kst (k : Int64) (b : Int) : Int64 := k <<< ((Int32.ofInt 8).toInt64 &&& 63) ||| (Int32.ofInt b).toInt64
def sm (b : Int) : Prop := 97 ≤ b ∧ b ≤ 122
def dg (b : Int) : Prop := 48 ≤ b ∧ b ≤ 57
/-- the key of a word's first bytes -/
def kwd (bs : List Int) : Int64 := bs.foldl kst 0
def tby (σ : mi_Sg) (p : Int) (bs : List Int) : Prop := ∀ (i : Nat) (b : Int), bs[i]? = some b → mi_sA σ 1 (p + i) = b
theorem tby_app {σ : mi_Sg} {p : Int} {bs bs' : List Int} (h : tby σ p (bs ++ bs')) : tby σ p bs ∧ tby σ (p + bs.length) bs' := by
  refine ⟨fun i k hk => h i k ?_, fun i k hk => ?_⟩
  · have hi : i < bs.length := by
      refine Decidable.byContradiction (fun e => ?_)
      rw [List.getElem?_eq_none (by omega)] at hk
      cases hk
    rw [List.getElem?_append_left hi]
    exact hk
  · have := h (bs.length + i) k (by rw [List.getElem?_append_right (by omega), show bs.length + i - bs.length = i by omega]; exact hk)
    rw [show p + (bs.length : Int) + (i : Int) = p + ((bs.length + i : Nat) : Int) by omega]
    exact this
theorem kwd_take {bs : List Int} {i : Nat} {b : Int} (h : bs[i]? = some b) : kwd (bs.take (i + 1)) = kst (kwd (bs.take i)) b := by
  unfold kwd
  rw [List.take_add_one, h, List.foldl_append]
  rfl
theorem to_word_l {X : mi_X} {d : Nat} {h0 : mi_H} {σ : mi_Sg} {p k : Int} {bs : List Int} (t : tpx σ) (p0 : 0 ≤ p) (T : tby σ p bs) (hb : ∀ (i : Nat) (b : Int), bs[i]? = some b → sm b ∨ (0 < i ∧ dg b)) (hl : 0 < bs.length ∧ bs.length ≤ 8) (he : p + bs.length ≤ mi_sF σ 3 6) (hn : p + bs.length < mi_sF σ 3 6 → ¬ sm (mi_sA σ 1 (p + bs.length)) ∧ ¬ dg (mi_sA σ 1 (p + bs.length))) (hk : ∀ x, kw_P σ (kwd bs) x → x = k) (n0 : 0 ≤ mi_sF σ 3 7) (n1 : mi_sF σ 3 7 ≤ 300) : ∀ (m : Nat) (i : Nat), bs.length - i = m → i ≤ bs.length → ∀ h, ty_H h σ → mi_Fm h0 h → mi_wp X (d + 1) mi_M119 5 [(4, .long (kwd (bs.take i))), (3, .int (Int32.ofInt (p + (i : Int)))), (0, .ref 3), (1, .int (Int32.ofInt p)), (2, .int (Int32.ofInt 13))] [] h 0 0 (fun z => ∃ v h' σ', z = (.inl v, h', 0, 0) ∧ ty_H h' σ' ∧ mi_Fm h0 h' ∧ ∃ x, v = some (.int (Int32.ofInt x)) ∧ x = p + bs.length ∧ σ' = tadd σ k p (p + bs.length) (kwd bs)) := by
  intro m
  induction m using Nat.strongRecOn with
  | ind m ih =>
    intro i hm hi h S fr
    have t0 := t.1.1
    have t1 := t.1.2
    by_cases hq : i < bs.length
    · obtain ⟨b, hbi⟩ : ∃ b, bs[i]? = some b := ⟨bs[i], List.getElem?_eq_getElem hq⟩
      have hA := T i b hbi
      have hB := t.2 (p + i) (by omega) (by omega)
      by_cases hz : i = 0
      · skip
        refine mi_wp_p (pc' := 6) (st' := [.int (Int32.ofInt (p + (i : Int)))]) rfl rfl rfl ?_
        refine mi_wp_p (pc' := 7) (st' := [.ref 3, .int (Int32.ofInt (p + (i : Int)))]) rfl rfl rfl ?_
        refine ty_s_gf (x := mi_sF σ 3 6) S rfl rfl rfl (List.mem_of_getElem? (i := 3) rfl) rfl ?_
        refine mi_s_if2 (t := 60) rfl rfl rfl (by unfold mi_R; omega) (by unfold mi_R; omega) (fun hc_ => absurd (show (mi_sF σ 3 6) ≤ (p + (i : Int)) from hc_) (by omega)) (fun _ => ?_)
        refine mi_wp_p (pc' := 14) (st' := [.int (Int32.ofInt (p + (i : Int)))]) rfl rfl rfl ?_
        refine mi_wp_p (pc' := 15) (st' := [.int (Int32.ofInt p), .int (Int32.ofInt (p + (i : Int)))]) rfl rfl rfl ?_
        refine mi_s_if2 (t := 40) rfl rfl rfl (by unfold mi_R; omega) (by unfold mi_R; omega) (fun _ => ?_) (fun hc_ => absurd (show (p + (i : Int)) = p by omega) hc_)
        refine mi_wp_p (pc' := 42) (st' := [.long (kwd (bs.take i))]) rfl rfl rfl ?_
        refine mi_s_k (pc' := 44) (e := 8) rfl rfl rfl (by decide +kernel) ?_
        refine mi_wp_p (pc' := 45) (st' := [.long ((kwd (bs.take i)) <<< ((Int32.ofInt 8).toInt64 &&& 63))]) rfl rfl rfl ?_
        refine mi_wp_p (pc' := 46) (st' := [.ref 3, .long ((kwd (bs.take i)) <<< ((Int32.ofInt 8).toInt64 &&& 63))]) rfl rfl rfl ?_
        refine mi_wp_p (pc' := 47) (st' := [.int (Int32.ofInt (p + (i : Int))), .ref 3, .long ((kwd (bs.take i)) <<< ((Int32.ofInt 8).toInt64 &&& 63))]) rfl rfl rfl ?_
        refine ty_s_ci rfl rfl rfl rfl rfl rfl (mi_cal_v2 (np := 1) (args := [.ref 3, .int (Int32.ofInt (p + (i : Int)))]) (rest := [.long ((kwd (bs.take i)) <<< ((Int32.ofInt 8).toInt64 &&& 63))]) rfl rfl rfl rfl rfl (Nat.le_of_ble_eq_true rfl) rfl rfl (Nat.le_of_ble_eq_true rfl) (ty_rcS S (List.mem_of_getElem? (i := 3) rfl))) (Nat.le_of_ble_eq_true rfl) S (to_byteOf t (by omega) (by omega)) ?_
        intro x hh σu S f P
        obtain ⟨e1, e2⟩ := P
        rw [e2] at S
        rw [e1]
        clear e1 e2
        replace fr := mi_Fm_tr fr f
        refine mi_wp_p (pc' := 51) (st' := [.long ((Int32.ofInt (mi_sA σ 1 (p + (i : Int)))).toInt64), .long ((kwd (bs.take i)) <<< ((Int32.ofInt 8).toInt64 &&& 63))]) rfl rfl rfl ?_
        refine mi_wp_p (pc' := 52) (st' := [.long (((kwd (bs.take i)) <<< ((Int32.ofInt 8).toInt64 &&& 63)) ||| ((Int32.ofInt (mi_sA σ 1 (p + (i : Int)))).toInt64))]) rfl rfl rfl ?_
        refine mi_wp_p (pc' := 54) (l' := [(4, .long (((kwd (bs.take i)) <<< ((Int32.ofInt 8).toInt64 &&& 63)) ||| ((Int32.ofInt (mi_sA σ 1 (p + (i : Int)))).toInt64))), (3, .int (Int32.ofInt (p + (i : Int)))), (0, .ref 3), (1, .int (Int32.ofInt p)), (2, .int (Int32.ofInt 13))]) (st' := []) rfl rfl rfl ?_
        refine mi_s_inc (l' := [(3, .int (Int32.ofInt ((p + (i : Int)) + 1))), (4, .long (((kwd (bs.take i)) <<< ((Int32.ofInt 8).toInt64 &&& 63)) ||| ((Int32.ofInt (mi_sA σ 1 (p + (i : Int)))).toInt64))), (0, .ref 3), (1, .int (Int32.ofInt p)), (2, .int (Int32.ofInt 13))]) rfl rfl rfl (by decide) rfl ?_
        refine mi_wp_p (pc' := 5) rfl rfl rfl ?_
        have ek : ((kwd (bs.take i)) <<< ((Int32.ofInt 8).toInt64 &&& 63)) ||| ((Int32.ofInt (mi_sA σ 1 (p + (i : Int)))).toInt64) = kwd (bs.take (i + 1)) := by
          rw [kwd_take hbi, hA]
          rfl
        rw [ek]
        rw [show p + (i : Int) + 1 = p + ((i + 1 : Nat) : Int) by omega]
        refine mi_wp_lw (l := [(4, .long (kwd (bs.take (i + 1)))), (3, .int (Int32.ofInt (p + ((i + 1 : Nat) : Int)))), (0, .ref 3), (1, .int (Int32.ofInt p)), (2, .int (Int32.ofInt 13))]) (mi_lw_of (show List.Nodup [4, 3, 0, 1, 2] by decide) ⟨rfl, rfl, rfl, rfl, rfl, trivial⟩) ?_
        exact ih _ (by omega) (i + 1) rfl (by omega) _ S fr
      · rcases hb i b hbi with v | ⟨-, v⟩
        · rw [← hA] at v
          obtain ⟨v1, v2⟩ := v
          refine mi_wp_p (pc' := 6) (st' := [.int (Int32.ofInt (p + (i : Int)))]) rfl rfl rfl ?_
          refine mi_wp_p (pc' := 7) (st' := [.ref 3, .int (Int32.ofInt (p + (i : Int)))]) rfl rfl rfl ?_
          refine ty_s_gf (x := mi_sF σ 3 6) S rfl rfl rfl (List.mem_of_getElem? (i := 3) rfl) rfl ?_
          refine mi_s_if2 (t := 60) rfl rfl rfl (by unfold mi_R; omega) (by unfold mi_R; omega) (fun hc_ => absurd (show (mi_sF σ 3 6) ≤ (p + (i : Int)) from hc_) (by omega)) (fun _ => ?_)
          refine mi_wp_p (pc' := 14) (st' := [.int (Int32.ofInt (p + (i : Int)))]) rfl rfl rfl ?_
          refine mi_wp_p (pc' := 15) (st' := [.int (Int32.ofInt p), .int (Int32.ofInt (p + (i : Int)))]) rfl rfl rfl ?_
          refine mi_s_if2 (t := 40) rfl rfl rfl (by unfold mi_R; omega) (by unfold mi_R; omega) (fun hc_ => absurd (show (p + (i : Int)) = p from hc_) (by omega)) (fun _ => ?_)
          refine mi_wp_p (pc' := 19) (st' := [.ref 3]) rfl rfl rfl ?_
          refine mi_wp_p (pc' := 20) (st' := [.int (Int32.ofInt (p + (i : Int))), .ref 3]) rfl rfl rfl ?_
          refine ty_s_ci rfl rfl rfl rfl rfl rfl (mi_cal_v2 (np := 1) (args := [.ref 3, .int (Int32.ofInt (p + (i : Int)))]) (rest := []) rfl rfl rfl rfl rfl (Nat.le_of_ble_eq_true rfl) rfl rfl (Nat.le_of_ble_eq_true rfl) (ty_rcS S (List.mem_of_getElem? (i := 3) rfl))) (Nat.le_of_ble_eq_true rfl) S (to_byteOf t (by omega) (by omega)) ?_
          intro x hh σu S f P
          obtain ⟨e1, e2⟩ := P
          rw [e2] at S
          rw [e1]
          clear e1 e2
          replace fr := mi_Fm_tr fr f
          refine ty_s_ci rfl rfl rfl rfl rfl rfl (mi_cal_s2 (np := 1) (args := [.int (Int32.ofInt (mi_sA σ 1 (p + (i : Int))))]) (rest := []) rfl rfl rfl (Or.inl rfl) rfl (Nat.le_of_ble_eq_true rfl) rfl rfl (Nat.le_of_ble_eq_true rfl)) (Nat.le_of_ble_eq_true rfl) S (to_isSmall1 v1 v2) ?_
          intro x hh σu S f P
          obtain ⟨e1, e2⟩ := P
          rw [e2] at S
          rw [e1]
          clear e1 e2
          replace fr := mi_Fm_tr fr f
          refine mi_s_if1 (t := 40) rfl rfl rfl (by unfold mi_R; omega) (fun _ => ?_) (fun hc_ => absurd (show (1 : Int) ≠ 0 by omega) hc_)
          refine mi_wp_p (pc' := 42) (st' := [.long (kwd (bs.take i))]) rfl rfl rfl ?_
          refine mi_s_k (pc' := 44) (e := 8) rfl rfl rfl (by decide +kernel) ?_
          refine mi_wp_p (pc' := 45) (st' := [.long ((kwd (bs.take i)) <<< ((Int32.ofInt 8).toInt64 &&& 63))]) rfl rfl rfl ?_
          refine mi_wp_p (pc' := 46) (st' := [.ref 3, .long ((kwd (bs.take i)) <<< ((Int32.ofInt 8).toInt64 &&& 63))]) rfl rfl rfl ?_
          refine mi_wp_p (pc' := 47) (st' := [.int (Int32.ofInt (p + (i : Int))), .ref 3, .long ((kwd (bs.take i)) <<< ((Int32.ofInt 8).toInt64 &&& 63))]) rfl rfl rfl ?_
          refine ty_s_ci rfl rfl rfl rfl rfl rfl (mi_cal_v2 (np := 1) (args := [.ref 3, .int (Int32.ofInt (p + (i : Int)))]) (rest := [.long ((kwd (bs.take i)) <<< ((Int32.ofInt 8).toInt64 &&& 63))]) rfl rfl rfl rfl rfl (Nat.le_of_ble_eq_true rfl) rfl rfl (Nat.le_of_ble_eq_true rfl) (ty_rcS S (List.mem_of_getElem? (i := 3) rfl))) (Nat.le_of_ble_eq_true rfl) S (to_byteOf t (by omega) (by omega)) ?_
          intro x hh σu S f P
          obtain ⟨e1, e2⟩ := P
          rw [e2] at S
          rw [e1]
          clear e1 e2
          replace fr := mi_Fm_tr fr f
          refine mi_wp_p (pc' := 51) (st' := [.long ((Int32.ofInt (mi_sA σ 1 (p + (i : Int)))).toInt64), .long ((kwd (bs.take i)) <<< ((Int32.ofInt 8).toInt64 &&& 63))]) rfl rfl rfl ?_
          refine mi_wp_p (pc' := 52) (st' := [.long (((kwd (bs.take i)) <<< ((Int32.ofInt 8).toInt64 &&& 63)) ||| ((Int32.ofInt (mi_sA σ 1 (p + (i : Int)))).toInt64))]) rfl rfl rfl ?_
          refine mi_wp_p (pc' := 54) (l' := [(4, .long (((kwd (bs.take i)) <<< ((Int32.ofInt 8).toInt64 &&& 63)) ||| ((Int32.ofInt (mi_sA σ 1 (p + (i : Int)))).toInt64))), (3, .int (Int32.ofInt (p + (i : Int)))), (0, .ref 3), (1, .int (Int32.ofInt p)), (2, .int (Int32.ofInt 13))]) (st' := []) rfl rfl rfl ?_
          refine mi_s_inc (l' := [(3, .int (Int32.ofInt ((p + (i : Int)) + 1))), (4, .long (((kwd (bs.take i)) <<< ((Int32.ofInt 8).toInt64 &&& 63)) ||| ((Int32.ofInt (mi_sA σ 1 (p + (i : Int)))).toInt64))), (0, .ref 3), (1, .int (Int32.ofInt p)), (2, .int (Int32.ofInt 13))]) rfl rfl rfl (by decide) rfl ?_
          refine mi_wp_p (pc' := 5) rfl rfl rfl ?_
          have ek : ((kwd (bs.take i)) <<< ((Int32.ofInt 8).toInt64 &&& 63)) ||| ((Int32.ofInt (mi_sA σ 1 (p + (i : Int)))).toInt64) = kwd (bs.take (i + 1)) := by
            rw [kwd_take hbi, hA]
            rfl
          rw [ek]
          rw [show p + (i : Int) + 1 = p + ((i + 1 : Nat) : Int) by omega]
          refine mi_wp_lw (l := [(4, .long (kwd (bs.take (i + 1)))), (3, .int (Int32.ofInt (p + ((i + 1 : Nat) : Int)))), (0, .ref 3), (1, .int (Int32.ofInt p)), (2, .int (Int32.ofInt 13))]) (mi_lw_of (show List.Nodup [4, 3, 0, 1, 2] by decide) ⟨rfl, rfl, rfl, rfl, rfl, trivial⟩) ?_
          exact ih _ (by omega) (i + 1) rfl (by omega) _ S fr
        · rw [← hA] at v
          obtain ⟨v1, v2⟩ := v
          have w1 : mi_sA σ 1 (p + (i : Int)) < 97 ∨ 122 < mi_sA σ 1 (p + (i : Int)) := by omega
          refine mi_wp_p (pc' := 6) (st' := [.int (Int32.ofInt (p + (i : Int)))]) rfl rfl rfl ?_
          refine mi_wp_p (pc' := 7) (st' := [.ref 3, .int (Int32.ofInt (p + (i : Int)))]) rfl rfl rfl ?_
          refine ty_s_gf (x := mi_sF σ 3 6) S rfl rfl rfl (List.mem_of_getElem? (i := 3) rfl) rfl ?_
          refine mi_s_if2 (t := 60) rfl rfl rfl (by unfold mi_R; omega) (by unfold mi_R; omega) (fun hc_ => absurd (show (mi_sF σ 3 6) ≤ (p + (i : Int)) from hc_) (by omega)) (fun _ => ?_)
          refine mi_wp_p (pc' := 14) (st' := [.int (Int32.ofInt (p + (i : Int)))]) rfl rfl rfl ?_
          refine mi_wp_p (pc' := 15) (st' := [.int (Int32.ofInt p), .int (Int32.ofInt (p + (i : Int)))]) rfl rfl rfl ?_
          refine mi_s_if2 (t := 40) rfl rfl rfl (by unfold mi_R; omega) (by unfold mi_R; omega) (fun hc_ => absurd (show (p + (i : Int)) = p from hc_) (by omega)) (fun _ => ?_)
          refine mi_wp_p (pc' := 19) (st' := [.ref 3]) rfl rfl rfl ?_
          refine mi_wp_p (pc' := 20) (st' := [.int (Int32.ofInt (p + (i : Int))), .ref 3]) rfl rfl rfl ?_
          refine ty_s_ci rfl rfl rfl rfl rfl rfl (mi_cal_v2 (np := 1) (args := [.ref 3, .int (Int32.ofInt (p + (i : Int)))]) (rest := []) rfl rfl rfl rfl rfl (Nat.le_of_ble_eq_true rfl) rfl rfl (Nat.le_of_ble_eq_true rfl) (ty_rcS S (List.mem_of_getElem? (i := 3) rfl))) (Nat.le_of_ble_eq_true rfl) S (to_byteOf t (by omega) (by omega)) ?_
          intro x hh σu S f P
          obtain ⟨e1, e2⟩ := P
          rw [e2] at S
          rw [e1]
          clear e1 e2
          replace fr := mi_Fm_tr fr f
          refine ty_s_ci rfl rfl rfl rfl rfl rfl (mi_cal_s2 (np := 1) (args := [.int (Int32.ofInt (mi_sA σ 1 (p + (i : Int))))]) (rest := []) rfl rfl rfl (Or.inl rfl) rfl (Nat.le_of_ble_eq_true rfl) rfl rfl (Nat.le_of_ble_eq_true rfl)) (Nat.le_of_ble_eq_true rfl) S (to_isSmall0 (by omega) (by omega) w1) ?_
          intro x hh σu S f P
          obtain ⟨e1, e2⟩ := P
          rw [e2] at S
          rw [e1]
          clear e1 e2
          replace fr := mi_Fm_tr fr f
          refine mi_s_if1 (t := 40) rfl rfl rfl (by unfold mi_R; omega) (fun hc_ => absurd (show (0 : Int) ≠ 0 from hc_) (by omega)) (fun _ => ?_)
          refine mi_wp_p (pc' := 30) (st' := [.ref 3]) rfl rfl rfl ?_
          refine mi_wp_p (pc' := 31) (st' := [.int (Int32.ofInt (p + (i : Int))), .ref 3]) rfl rfl rfl ?_
          refine ty_s_ci rfl rfl rfl rfl rfl rfl (mi_cal_v2 (np := 1) (args := [.ref 3, .int (Int32.ofInt (p + (i : Int)))]) (rest := []) rfl rfl rfl rfl rfl (Nat.le_of_ble_eq_true rfl) rfl rfl (Nat.le_of_ble_eq_true rfl) (ty_rcS S (List.mem_of_getElem? (i := 3) rfl))) (Nat.le_of_ble_eq_true rfl) S (to_byteOf t (by omega) (by omega)) ?_
          intro x hh σu S f P
          obtain ⟨e1, e2⟩ := P
          rw [e2] at S
          rw [e1]
          clear e1 e2
          replace fr := mi_Fm_tr fr f
          refine ty_s_ci rfl rfl rfl rfl rfl rfl (mi_cal_s2 (np := 1) (args := [.int (Int32.ofInt (mi_sA σ 1 (p + (i : Int))))]) (rest := []) rfl rfl rfl (Or.inl rfl) rfl (Nat.le_of_ble_eq_true rfl) rfl rfl (Nat.le_of_ble_eq_true rfl)) (Nat.le_of_ble_eq_true rfl) S (to_isDigit1 v1 v2) ?_
          intro x hh σu S f P
          obtain ⟨e1, e2⟩ := P
          rw [e2] at S
          rw [e1]
          clear e1 e2
          replace fr := mi_Fm_tr fr f
          refine mi_s_if1 (t := 60) rfl rfl rfl (by unfold mi_R; omega) (fun hc_ => absurd (show (1 : Int) = 0 from hc_) (by omega)) (fun _ => ?_)
          refine mi_wp_p (pc' := 42) (st' := [.long (kwd (bs.take i))]) rfl rfl rfl ?_
          refine mi_s_k (pc' := 44) (e := 8) rfl rfl rfl (by decide +kernel) ?_
          refine mi_wp_p (pc' := 45) (st' := [.long ((kwd (bs.take i)) <<< ((Int32.ofInt 8).toInt64 &&& 63))]) rfl rfl rfl ?_
          refine mi_wp_p (pc' := 46) (st' := [.ref 3, .long ((kwd (bs.take i)) <<< ((Int32.ofInt 8).toInt64 &&& 63))]) rfl rfl rfl ?_
          refine mi_wp_p (pc' := 47) (st' := [.int (Int32.ofInt (p + (i : Int))), .ref 3, .long ((kwd (bs.take i)) <<< ((Int32.ofInt 8).toInt64 &&& 63))]) rfl rfl rfl ?_
          refine ty_s_ci rfl rfl rfl rfl rfl rfl (mi_cal_v2 (np := 1) (args := [.ref 3, .int (Int32.ofInt (p + (i : Int)))]) (rest := [.long ((kwd (bs.take i)) <<< ((Int32.ofInt 8).toInt64 &&& 63))]) rfl rfl rfl rfl rfl (Nat.le_of_ble_eq_true rfl) rfl rfl (Nat.le_of_ble_eq_true rfl) (ty_rcS S (List.mem_of_getElem? (i := 3) rfl))) (Nat.le_of_ble_eq_true rfl) S (to_byteOf t (by omega) (by omega)) ?_
          intro x hh σu S f P
          obtain ⟨e1, e2⟩ := P
          rw [e2] at S
          rw [e1]
          clear e1 e2
          replace fr := mi_Fm_tr fr f
          refine mi_wp_p (pc' := 51) (st' := [.long ((Int32.ofInt (mi_sA σ 1 (p + (i : Int)))).toInt64), .long ((kwd (bs.take i)) <<< ((Int32.ofInt 8).toInt64 &&& 63))]) rfl rfl rfl ?_
          refine mi_wp_p (pc' := 52) (st' := [.long (((kwd (bs.take i)) <<< ((Int32.ofInt 8).toInt64 &&& 63)) ||| ((Int32.ofInt (mi_sA σ 1 (p + (i : Int)))).toInt64))]) rfl rfl rfl ?_
          refine mi_wp_p (pc' := 54) (l' := [(4, .long (((kwd (bs.take i)) <<< ((Int32.ofInt 8).toInt64 &&& 63)) ||| ((Int32.ofInt (mi_sA σ 1 (p + (i : Int)))).toInt64))), (3, .int (Int32.ofInt (p + (i : Int)))), (0, .ref 3), (1, .int (Int32.ofInt p)), (2, .int (Int32.ofInt 13))]) (st' := []) rfl rfl rfl ?_
          refine mi_s_inc (l' := [(3, .int (Int32.ofInt ((p + (i : Int)) + 1))), (4, .long (((kwd (bs.take i)) <<< ((Int32.ofInt 8).toInt64 &&& 63)) ||| ((Int32.ofInt (mi_sA σ 1 (p + (i : Int)))).toInt64))), (0, .ref 3), (1, .int (Int32.ofInt p)), (2, .int (Int32.ofInt 13))]) rfl rfl rfl (by decide) rfl ?_
          refine mi_wp_p (pc' := 5) rfl rfl rfl ?_
          have ek : ((kwd (bs.take i)) <<< ((Int32.ofInt 8).toInt64 &&& 63)) ||| ((Int32.ofInt (mi_sA σ 1 (p + (i : Int)))).toInt64) = kwd (bs.take (i + 1)) := by
            rw [kwd_take hbi, hA]
            rfl
          rw [ek]
          rw [show p + (i : Int) + 1 = p + ((i + 1 : Nat) : Int) by omega]
          refine mi_wp_lw (l := [(4, .long (kwd (bs.take (i + 1)))), (3, .int (Int32.ofInt (p + ((i + 1 : Nat) : Int)))), (0, .ref 3), (1, .int (Int32.ofInt p)), (2, .int (Int32.ofInt 13))]) (mi_lw_of (show List.Nodup [4, 3, 0, 1, 2] by decide) ⟨rfl, rfl, rfl, rfl, rfl, trivial⟩) ?_
          exact ih _ (by omega) (i + 1) rfl (by omega) _ S fr
    · obtain rfl : i = bs.length := by omega
      rw [List.take_length]
      by_cases hz : p + bs.length < mi_sF σ 3 6
      · obtain ⟨w1, w2⟩ := hn hz
        unfold sm at w1
        unfold dg at w2
        have hB := t.2 (p + bs.length) (by omega) hz
        replace w1 : mi_sA σ 1 (p + (bs.length : Int)) < 97 ∨ 122 < mi_sA σ 1 (p + (bs.length : Int)) := by omega
        replace w2 : mi_sA σ 1 (p + (bs.length : Int)) < 48 ∨ 57 < mi_sA σ 1 (p + (bs.length : Int)) := by omega
        refine mi_wp_p (pc' := 6) (st' := [.int (Int32.ofInt (p + (bs.length : Int)))]) rfl rfl rfl ?_
        refine mi_wp_p (pc' := 7) (st' := [.ref 3, .int (Int32.ofInt (p + (bs.length : Int)))]) rfl rfl rfl ?_
        refine ty_s_gf (x := mi_sF σ 3 6) S rfl rfl rfl (List.mem_of_getElem? (i := 3) rfl) rfl ?_
        refine mi_s_if2 (t := 60) rfl rfl rfl (by unfold mi_R; omega) (by unfold mi_R; omega) (fun hc_ => absurd (show (mi_sF σ 3 6) ≤ (p + (bs.length : Int)) from hc_) (by omega)) (fun _ => ?_)
        refine mi_wp_p (pc' := 14) (st' := [.int (Int32.ofInt (p + (bs.length : Int)))]) rfl rfl rfl ?_
        refine mi_wp_p (pc' := 15) (st' := [.int (Int32.ofInt p), .int (Int32.ofInt (p + (bs.length : Int)))]) rfl rfl rfl ?_
        refine mi_s_if2 (t := 40) rfl rfl rfl (by unfold mi_R; omega) (by unfold mi_R; omega) (fun hc_ => absurd (show (p + (bs.length : Int)) = p from hc_) (by omega)) (fun _ => ?_)
        refine mi_wp_p (pc' := 19) (st' := [.ref 3]) rfl rfl rfl ?_
        refine mi_wp_p (pc' := 20) (st' := [.int (Int32.ofInt (p + (bs.length : Int))), .ref 3]) rfl rfl rfl ?_
        refine ty_s_ci rfl rfl rfl rfl rfl rfl (mi_cal_v2 (np := 1) (args := [.ref 3, .int (Int32.ofInt (p + (bs.length : Int)))]) (rest := []) rfl rfl rfl rfl rfl (Nat.le_of_ble_eq_true rfl) rfl rfl (Nat.le_of_ble_eq_true rfl) (ty_rcS S (List.mem_of_getElem? (i := 3) rfl))) (Nat.le_of_ble_eq_true rfl) S (to_byteOf t (by omega) (by omega)) ?_
        intro x hh σu S f P
        obtain ⟨e1, e2⟩ := P
        rw [e2] at S
        rw [e1]
        clear e1 e2
        replace fr := mi_Fm_tr fr f
        refine ty_s_ci rfl rfl rfl rfl rfl rfl (mi_cal_s2 (np := 1) (args := [.int (Int32.ofInt (mi_sA σ 1 (p + (bs.length : Int))))]) (rest := []) rfl rfl rfl (Or.inl rfl) rfl (Nat.le_of_ble_eq_true rfl) rfl rfl (Nat.le_of_ble_eq_true rfl)) (Nat.le_of_ble_eq_true rfl) S (to_isSmall0 (by omega) (by omega) w1) ?_
        intro x hh σu S f P
        obtain ⟨e1, e2⟩ := P
        rw [e2] at S
        rw [e1]
        clear e1 e2
        replace fr := mi_Fm_tr fr f
        refine mi_s_if1 (t := 40) rfl rfl rfl (by unfold mi_R; omega) (fun hc_ => absurd (show (0 : Int) ≠ 0 from hc_) (by omega)) (fun _ => ?_)
        refine mi_wp_p (pc' := 30) (st' := [.ref 3]) rfl rfl rfl ?_
        refine mi_wp_p (pc' := 31) (st' := [.int (Int32.ofInt (p + (bs.length : Int))), .ref 3]) rfl rfl rfl ?_
        refine ty_s_ci rfl rfl rfl rfl rfl rfl (mi_cal_v2 (np := 1) (args := [.ref 3, .int (Int32.ofInt (p + (bs.length : Int)))]) (rest := []) rfl rfl rfl rfl rfl (Nat.le_of_ble_eq_true rfl) rfl rfl (Nat.le_of_ble_eq_true rfl) (ty_rcS S (List.mem_of_getElem? (i := 3) rfl))) (Nat.le_of_ble_eq_true rfl) S (to_byteOf t (by omega) (by omega)) ?_
        intro x hh σu S f P
        obtain ⟨e1, e2⟩ := P
        rw [e2] at S
        rw [e1]
        clear e1 e2
        replace fr := mi_Fm_tr fr f
        refine ty_s_ci rfl rfl rfl rfl rfl rfl (mi_cal_s2 (np := 1) (args := [.int (Int32.ofInt (mi_sA σ 1 (p + (bs.length : Int))))]) (rest := []) rfl rfl rfl (Or.inl rfl) rfl (Nat.le_of_ble_eq_true rfl) rfl rfl (Nat.le_of_ble_eq_true rfl)) (Nat.le_of_ble_eq_true rfl) S (to_isDigit0 (by omega) (by omega) w2) ?_
        intro x hh σu S f P
        obtain ⟨e1, e2⟩ := P
        rw [e2] at S
        rw [e1]
        clear e1 e2
        replace fr := mi_Fm_tr fr f
        refine mi_s_if1 (t := 60) rfl rfl rfl (by unfold mi_R; omega) (fun _ => ?_) (fun hc_ => absurd (show (0 : Int) = 0 by omega) hc_)
        refine mi_wp_p (pc' := 61) (st' := [.int (Int32.ofInt (p + (bs.length : Int)))]) rfl rfl rfl ?_
        refine mi_wp_p (pc' := 62) (st' := [.int (Int32.ofInt p), .int (Int32.ofInt (p + (bs.length : Int)))]) rfl rfl rfl ?_
        refine mi_s_sub rfl rfl ?_
        refine mi_s_k (pc' := 65) (e := 8) rfl rfl rfl (by decide +kernel) ?_
        refine mi_s_if2 (t := 78) rfl rfl rfl (by unfold mi_R; omega) (by unfold mi_R; omega) (fun _ => ?_) (fun hc_ => absurd (show ((p + (bs.length : Int)) - p) ≤ 8 by omega) hc_)
        refine mi_wp_p (pc' := 79) (st' := [.ref 3]) rfl rfl rfl ?_
        refine mi_wp_p (pc' := 80) (st' := [.int (Int32.ofInt 13), .ref 3]) rfl rfl rfl ?_
        refine mi_s_k (pc' := 82) (e := 13) rfl rfl rfl (by decide +kernel) ?_
        refine mi_s_if2 (t := 94) rfl rfl rfl (by unfold mi_R; omega) (by unfold mi_R; omega) (fun hc_ => absurd (show (13 : Int) ≠ 13 from hc_) (by omega)) (fun _ => ?_)
        refine mi_wp_p (pc' := 86) (st' := [.ref 3, .ref 3]) rfl rfl rfl ?_
        refine mi_wp_p (pc' := 88) (st' := [.long (kwd bs), .ref 3, .ref 3]) rfl rfl rfl ?_
        refine ty_s_ci rfl rfl rfl rfl rfl rfl (mi_cal_v2 (np := 1) (args := [.ref 3, .long (kwd bs)]) (rest := [.ref 3]) rfl rfl rfl rfl rfl (Nat.le_of_ble_eq_true rfl) rfl rfl (Nat.le_of_ble_eq_true rfl) (ty_rcS S (List.mem_of_getElem? (i := 3) rfl))) (Nat.le_of_ble_eq_true rfl) S to_kow ?_
        intro x hh σu S f P
        obtain ⟨P, e2⟩ := P
        rw [e2] at S
        obtain e3 : x = k := hk x P
        rw [e3]
        clear P e2 e3 x
        replace fr := mi_Fm_tr fr f
        refine mi_wp_p (pc' := 95) rfl rfl rfl ?_
        refine mi_wp_p (pc' := 96) (st' := [.int (Int32.ofInt p), .int (Int32.ofInt k), .ref 3]) rfl rfl rfl ?_
        refine mi_wp_p (pc' := 97) (st' := [.int (Int32.ofInt (p + (bs.length : Int))), .int (Int32.ofInt p), .int (Int32.ofInt k), .ref 3]) rfl rfl rfl ?_
        refine mi_wp_p (pc' := 99) (st' := [.long (kwd bs), .int (Int32.ofInt (p + (bs.length : Int))), .int (Int32.ofInt p), .int (Int32.ofInt k), .ref 3]) rfl rfl rfl ?_
        refine ty_s_ci rfl rfl rfl rfl rfl rfl (mi_cal_v2 (np := 4) (args := [.ref 3, .int (Int32.ofInt k), .int (Int32.ofInt p), .int (Int32.ofInt (p + (bs.length : Int))), .long (kwd bs)]) (rest := []) rfl rfl rfl rfl rfl (Nat.le_of_ble_eq_true rfl) rfl rfl (Nat.le_of_ble_eq_true rfl) (ty_rcS S (List.mem_of_getElem? (i := 3) rfl))) (Nat.le_of_ble_eq_true rfl) S (to_add n0 n1) ?_
        intro x hh σ2 S f P
        obtain ⟨e1, e2⟩ := P
        subst e2
        rw [e1]
        clear e1
        replace fr := mi_Fm_tr fr f
        exact ty_s_ret S fr rfl rfl rfl (mi_ret_i rfl) ⟨_, rfl, ⟨rfl, rfl⟩⟩
      · skip
        refine mi_wp_p (pc' := 6) (st' := [.int (Int32.ofInt (p + (bs.length : Int)))]) rfl rfl rfl ?_
        refine mi_wp_p (pc' := 7) (st' := [.ref 3, .int (Int32.ofInt (p + (bs.length : Int)))]) rfl rfl rfl ?_
        refine ty_s_gf (x := mi_sF σ 3 6) S rfl rfl rfl (List.mem_of_getElem? (i := 3) rfl) rfl ?_
        refine mi_s_if2 (t := 60) rfl rfl rfl (by unfold mi_R; omega) (by unfold mi_R; omega) (fun _ => ?_) (fun hc_ => absurd (show (mi_sF σ 3 6) ≤ (p + (bs.length : Int)) by omega) hc_)
        refine mi_wp_p (pc' := 61) (st' := [.int (Int32.ofInt (p + (bs.length : Int)))]) rfl rfl rfl ?_
        refine mi_wp_p (pc' := 62) (st' := [.int (Int32.ofInt p), .int (Int32.ofInt (p + (bs.length : Int)))]) rfl rfl rfl ?_
        refine mi_s_sub rfl rfl ?_
        refine mi_s_k (pc' := 65) (e := 8) rfl rfl rfl (by decide +kernel) ?_
        refine mi_s_if2 (t := 78) rfl rfl rfl (by unfold mi_R; omega) (by unfold mi_R; omega) (fun _ => ?_) (fun hc_ => absurd (show ((p + (bs.length : Int)) - p) ≤ 8 by omega) hc_)
        refine mi_wp_p (pc' := 79) (st' := [.ref 3]) rfl rfl rfl ?_
        refine mi_wp_p (pc' := 80) (st' := [.int (Int32.ofInt 13), .ref 3]) rfl rfl rfl ?_
        refine mi_s_k (pc' := 82) (e := 13) rfl rfl rfl (by decide +kernel) ?_
        refine mi_s_if2 (t := 94) rfl rfl rfl (by unfold mi_R; omega) (by unfold mi_R; omega) (fun hc_ => absurd (show (13 : Int) ≠ 13 from hc_) (by omega)) (fun _ => ?_)
        refine mi_wp_p (pc' := 86) (st' := [.ref 3, .ref 3]) rfl rfl rfl ?_
        refine mi_wp_p (pc' := 88) (st' := [.long (kwd bs), .ref 3, .ref 3]) rfl rfl rfl ?_
        refine ty_s_ci rfl rfl rfl rfl rfl rfl (mi_cal_v2 (np := 1) (args := [.ref 3, .long (kwd bs)]) (rest := [.ref 3]) rfl rfl rfl rfl rfl (Nat.le_of_ble_eq_true rfl) rfl rfl (Nat.le_of_ble_eq_true rfl) (ty_rcS S (List.mem_of_getElem? (i := 3) rfl))) (Nat.le_of_ble_eq_true rfl) S to_kow ?_
        intro x hh σu S f P
        obtain ⟨P, e2⟩ := P
        rw [e2] at S
        obtain e3 : x = k := hk x P
        rw [e3]
        clear P e2 e3 x
        replace fr := mi_Fm_tr fr f
        refine mi_wp_p (pc' := 95) rfl rfl rfl ?_
        refine mi_wp_p (pc' := 96) (st' := [.int (Int32.ofInt p), .int (Int32.ofInt k), .ref 3]) rfl rfl rfl ?_
        refine mi_wp_p (pc' := 97) (st' := [.int (Int32.ofInt (p + (bs.length : Int))), .int (Int32.ofInt p), .int (Int32.ofInt k), .ref 3]) rfl rfl rfl ?_
        refine mi_wp_p (pc' := 99) (st' := [.long (kwd bs), .int (Int32.ofInt (p + (bs.length : Int))), .int (Int32.ofInt p), .int (Int32.ofInt k), .ref 3]) rfl rfl rfl ?_
        refine ty_s_ci rfl rfl rfl rfl rfl rfl (mi_cal_v2 (np := 4) (args := [.ref 3, .int (Int32.ofInt k), .int (Int32.ofInt p), .int (Int32.ofInt (p + (bs.length : Int))), .long (kwd bs)]) (rest := []) rfl rfl rfl rfl rfl (Nat.le_of_ble_eq_true rfl) rfl rfl (Nat.le_of_ble_eq_true rfl) (ty_rcS S (List.mem_of_getElem? (i := 3) rfl))) (Nat.le_of_ble_eq_true rfl) S (to_add n0 n1) ?_
        intro x hh σ2 S f P
        obtain ⟨e1, e2⟩ := P
        subst e2
        rw [e1]
        clear e1
        replace fr := mi_Fm_tr fr f
        exact ty_s_ret S fr rfl rfl rfl (mi_ret_i rfl) ⟨_, rfl, ⟨rfl, rfl⟩⟩
theorem to_word {X : mi_X} {d : Nat} {σ : mi_Sg} {p k : Int} {bs : List Int} (t : tpx σ) (p0 : 0 ≤ p) (T : tby σ p bs) (hb : ∀ (i : Nat) (b : Int), bs[i]? = some b → sm b ∨ (0 < i ∧ dg b)) (hl : 0 < bs.length ∧ bs.length ≤ 8) (he : p + bs.length ≤ mi_sF σ 3 6) (hn : p + bs.length < mi_sF σ 3 6 → ¬ sm (mi_sA σ 1 (p + bs.length)) ∧ ¬ dg (mi_sA σ 1 (p + bs.length))) (hk : ∀ x, kw_P σ (kwd bs) x → x = k) (n0 : 0 ≤ mi_sF σ 3 7) (n1 : mi_sF σ 3 7 ≤ 300) : ty_Ci X (d + 1) mi_M119 [(0, .ref 3), (1, .int (Int32.ofInt p)), (2, .int (Int32.ofInt 13))] σ (fun x σ' => x = p + bs.length ∧ σ' = tadd σ k p (p + bs.length) (kwd bs)) := by
  intro h S
  have fr := mi_Fm_rf h
  refine mi_wp_p (pc' := 1) (st' := [.int (Int32.ofInt p)]) rfl rfl rfl ?_
  refine mi_wp_p (pc' := 2) (l' := [(3, .int (Int32.ofInt p)), (0, .ref 3), (1, .int (Int32.ofInt p)), (2, .int (Int32.ofInt 13))]) (st' := []) rfl rfl rfl ?_
  refine mi_wp_p (pc' := 3) rfl rfl rfl ?_
  refine mi_wp_p (pc' := 5) (l' := [(4, .long (Int64.ofNat 0)), (3, .int (Int32.ofInt p)), (0, .ref 3), (1, .int (Int32.ofInt p)), (2, .int (Int32.ofInt 13))]) (st' := []) rfl rfl rfl ?_
  have Q := to_word_l (X := X) (d := d) (h0 := h) t p0 T hb hl he hn hk n0 n1 _ 0 rfl (Nat.zero_le _) h S fr
  rw [show p + ((0 : Nat) : Int) = p by omega] at Q
  refine mi_wp_lw (l := [(4, .long (kwd (bs.take 0))), (3, .int (Int32.ofInt p)), (0, .ref 3), (1, .int (Int32.ofInt p)), (2, .int (Int32.ofInt 13))]) (mi_lw_of (show List.Nodup [4, 3, 0, 1, 2] by decide) ⟨rfl, rfl, rfl, rfl, rfl, trivial⟩) ?_
  exact Q
theorem to_sym40 {X : mi_X} {σ : mi_Sg} {d : Nat} {p : Int} (n0 : 0 ≤ mi_sF σ 3 7) (n1 : mi_sF σ 3 7 ≤ 300) : ty_Ci X (d + 9) mi_M117 [(0, .ref 3), (1, .int (Int32.ofInt p)), (2, .int (Int32.ofInt 40))] σ (fun x σ' => x = p + 1 ∧ σ' = tadd σ 40 p (p + 1) 0) := by
  intro h S
  have fr := mi_Fm_rf h
  refine mi_wp_p (pc' := 1) (st' := [.int (Int32.ofInt 40)]) rfl rfl rfl ?_
  refine mi_s_k (pc' := 3) (e := 45) rfl rfl rfl (by decide +kernel) ?_
  refine mi_s_if2 (t := 30) rfl rfl rfl (by unfold mi_R; omega) (by unfold mi_R; omega) (fun _ => ?_) (fun hc_ => absurd (show (40 : Int) ≠ 45 by omega) hc_)
  refine mi_wp_p (pc' := 31) (st' := [.int (Int32.ofInt 40)]) rfl rfl rfl ?_
  refine mi_s_k (pc' := 34) (e := 128) rfl rfl rfl (by decide +kernel) ?_
  refine mi_s_if2 (t := 51) rfl rfl rfl (by unfold mi_R; omega) (by unfold mi_R; omega) (fun hc_ => absurd (show 128 ≤ (40 : Int) from hc_) (by omega)) (fun _ => ?_)
  refine mi_s_lds (i := 6) rfl rfl rfl rfl rfl ?_
  refine mi_wp_p (pc' := 40) (st' := [.int (Int32.ofInt 40), .retAddr 24]) rfl rfl rfl ?_
  refine mi_wp_p (pc' := 41) (st' := [.int (Int32.ofInt 40), .retAddr 24]) rfl rfl rfl ?_
  refine ty_s_ci rfl rfl rfl rfl rfl rfl (mi_cal_v2 (np := 1) (args := [.retAddr 24, .int (Int32.ofInt 40)]) (rest := []) rfl rfl rfl rfl rfl (Nat.le_of_ble_eq_true rfl) rfl rfl (Nat.le_of_ble_eq_true rfl) rfl) (Nat.le_of_ble_eq_true rfl) S six40 ?_
  intro x hh σu S f P
  obtain ⟨e1, e2⟩ := P
  rw [e2] at S
  rw [e1]
  clear e1 e2
  replace fr := mi_Fm_tr fr f
  refine mi_s_if1 (t := 51) rfl rfl rfl (by unfold mi_R; omega) (fun hc_ => absurd (show (0 : Int) < 0 from hc_) (by omega)) (fun _ => ?_)
  refine mi_wp_p (pc' := 48) (st' := [.int (Int32.ofInt 40)]) rfl rfl rfl ?_
  refine mi_wp_p (pc' := 53) rfl rfl rfl ?_
  refine mi_wp_p (pc' := 54) (l' := [(3, .int (Int32.ofInt 40)), (0, .ref 3), (1, .int (Int32.ofInt p)), (2, .int (Int32.ofInt 40))]) (st' := []) rfl rfl rfl ?_
  refine mi_wp_p (pc' := 55) (st' := [.ref 3]) rfl rfl rfl ?_
  refine mi_wp_p (pc' := 56) (st' := [.int (Int32.ofInt 40), .ref 3]) rfl rfl rfl ?_
  refine mi_wp_p (pc' := 57) (st' := [.int (Int32.ofInt p), .int (Int32.ofInt 40), .ref 3]) rfl rfl rfl ?_
  refine mi_wp_p (pc' := 58) (st' := [.int (Int32.ofInt p), .int (Int32.ofInt p), .int (Int32.ofInt 40), .ref 3]) rfl rfl rfl ?_
  refine mi_wp_p (pc' := 59) (st' := [.int (Int32.ofInt 1), .int (Int32.ofInt p), .int (Int32.ofInt p), .int (Int32.ofInt 40), .ref 3]) rfl rfl rfl ?_
  refine mi_s_add rfl rfl ?_
  refine mi_wp_p (pc' := 61) rfl rfl rfl ?_
  refine ty_s_ci rfl rfl rfl rfl rfl rfl (mi_cal_v2 (np := 4) (args := [.ref 3, .int (Int32.ofInt 40), .int (Int32.ofInt p), .int (Int32.ofInt (p + 1)), .long (Int64.ofNat 0)]) (rest := []) rfl rfl rfl rfl rfl (Nat.le_of_ble_eq_true rfl) rfl rfl (Nat.le_of_ble_eq_true rfl) (ty_rcS S (List.mem_of_getElem? (i := 3) rfl))) (Nat.le_of_ble_eq_true rfl) S (to_add n0 n1) ?_
  intro x hh σ2 S f P
  obtain ⟨e1, e2⟩ := P
  subst e2
  rw [e1]
  clear e1
  replace fr := mi_Fm_tr fr f
  exact ty_s_ret S fr rfl rfl rfl (mi_ret_i rfl) ⟨_, rfl, ⟨rfl, rfl⟩⟩
theorem to_sym41 {X : mi_X} {σ : mi_Sg} {d : Nat} {p : Int} (n0 : 0 ≤ mi_sF σ 3 7) (n1 : mi_sF σ 3 7 ≤ 300) : ty_Ci X (d + 9) mi_M117 [(0, .ref 3), (1, .int (Int32.ofInt p)), (2, .int (Int32.ofInt 41))] σ (fun x σ' => x = p + 1 ∧ σ' = tadd σ 41 p (p + 1) 0) := by
  intro h S
  have fr := mi_Fm_rf h
  refine mi_wp_p (pc' := 1) (st' := [.int (Int32.ofInt 41)]) rfl rfl rfl ?_
  refine mi_s_k (pc' := 3) (e := 45) rfl rfl rfl (by decide +kernel) ?_
  refine mi_s_if2 (t := 30) rfl rfl rfl (by unfold mi_R; omega) (by unfold mi_R; omega) (fun _ => ?_) (fun hc_ => absurd (show (41 : Int) ≠ 45 by omega) hc_)
  refine mi_wp_p (pc' := 31) (st' := [.int (Int32.ofInt 41)]) rfl rfl rfl ?_
  refine mi_s_k (pc' := 34) (e := 128) rfl rfl rfl (by decide +kernel) ?_
  refine mi_s_if2 (t := 51) rfl rfl rfl (by unfold mi_R; omega) (by unfold mi_R; omega) (fun hc_ => absurd (show 128 ≤ (41 : Int) from hc_) (by omega)) (fun _ => ?_)
  refine mi_s_lds (i := 6) rfl rfl rfl rfl rfl ?_
  refine mi_wp_p (pc' := 40) (st' := [.int (Int32.ofInt 41), .retAddr 24]) rfl rfl rfl ?_
  refine mi_wp_p (pc' := 41) (st' := [.int (Int32.ofInt 41), .retAddr 24]) rfl rfl rfl ?_
  refine ty_s_ci rfl rfl rfl rfl rfl rfl (mi_cal_v2 (np := 1) (args := [.retAddr 24, .int (Int32.ofInt 41)]) (rest := []) rfl rfl rfl rfl rfl (Nat.le_of_ble_eq_true rfl) rfl rfl (Nat.le_of_ble_eq_true rfl) rfl) (Nat.le_of_ble_eq_true rfl) S six41 ?_
  intro x hh σu S f P
  obtain ⟨e1, e2⟩ := P
  rw [e2] at S
  rw [e1]
  clear e1 e2
  replace fr := mi_Fm_tr fr f
  refine mi_s_if1 (t := 51) rfl rfl rfl (by unfold mi_R; omega) (fun hc_ => absurd (show (1 : Int) < 0 from hc_) (by omega)) (fun _ => ?_)
  refine mi_wp_p (pc' := 48) (st' := [.int (Int32.ofInt 41)]) rfl rfl rfl ?_
  refine mi_wp_p (pc' := 53) rfl rfl rfl ?_
  refine mi_wp_p (pc' := 54) (l' := [(3, .int (Int32.ofInt 41)), (0, .ref 3), (1, .int (Int32.ofInt p)), (2, .int (Int32.ofInt 41))]) (st' := []) rfl rfl rfl ?_
  refine mi_wp_p (pc' := 55) (st' := [.ref 3]) rfl rfl rfl ?_
  refine mi_wp_p (pc' := 56) (st' := [.int (Int32.ofInt 41), .ref 3]) rfl rfl rfl ?_
  refine mi_wp_p (pc' := 57) (st' := [.int (Int32.ofInt p), .int (Int32.ofInt 41), .ref 3]) rfl rfl rfl ?_
  refine mi_wp_p (pc' := 58) (st' := [.int (Int32.ofInt p), .int (Int32.ofInt p), .int (Int32.ofInt 41), .ref 3]) rfl rfl rfl ?_
  refine mi_wp_p (pc' := 59) (st' := [.int (Int32.ofInt 1), .int (Int32.ofInt p), .int (Int32.ofInt p), .int (Int32.ofInt 41), .ref 3]) rfl rfl rfl ?_
  refine mi_s_add rfl rfl ?_
  refine mi_wp_p (pc' := 61) rfl rfl rfl ?_
  refine ty_s_ci rfl rfl rfl rfl rfl rfl (mi_cal_v2 (np := 4) (args := [.ref 3, .int (Int32.ofInt 41), .int (Int32.ofInt p), .int (Int32.ofInt (p + 1)), .long (Int64.ofNat 0)]) (rest := []) rfl rfl rfl rfl rfl (Nat.le_of_ble_eq_true rfl) rfl rfl (Nat.le_of_ble_eq_true rfl) (ty_rcS S (List.mem_of_getElem? (i := 3) rfl))) (Nat.le_of_ble_eq_true rfl) S (to_add n0 n1) ?_
  intro x hh σ2 S f P
  obtain ⟨e1, e2⟩ := P
  subst e2
  rw [e1]
  clear e1
  replace fr := mi_Fm_tr fr f
  exact ty_s_ret S fr rfl rfl rfl (mi_ret_i rfl) ⟨_, rfl, ⟨rfl, rfl⟩⟩
theorem to_sym44 {X : mi_X} {σ : mi_Sg} {d : Nat} {p : Int} (n0 : 0 ≤ mi_sF σ 3 7) (n1 : mi_sF σ 3 7 ≤ 300) : ty_Ci X (d + 9) mi_M117 [(0, .ref 3), (1, .int (Int32.ofInt p)), (2, .int (Int32.ofInt 44))] σ (fun x σ' => x = p + 1 ∧ σ' = tadd σ 44 p (p + 1) 0) := by
  intro h S
  have fr := mi_Fm_rf h
  refine mi_wp_p (pc' := 1) (st' := [.int (Int32.ofInt 44)]) rfl rfl rfl ?_
  refine mi_s_k (pc' := 3) (e := 45) rfl rfl rfl (by decide +kernel) ?_
  refine mi_s_if2 (t := 30) rfl rfl rfl (by unfold mi_R; omega) (by unfold mi_R; omega) (fun _ => ?_) (fun hc_ => absurd (show (44 : Int) ≠ 45 by omega) hc_)
  refine mi_wp_p (pc' := 31) (st' := [.int (Int32.ofInt 44)]) rfl rfl rfl ?_
  refine mi_s_k (pc' := 34) (e := 128) rfl rfl rfl (by decide +kernel) ?_
  refine mi_s_if2 (t := 51) rfl rfl rfl (by unfold mi_R; omega) (by unfold mi_R; omega) (fun hc_ => absurd (show 128 ≤ (44 : Int) from hc_) (by omega)) (fun _ => ?_)
  refine mi_s_lds (i := 6) rfl rfl rfl rfl rfl ?_
  refine mi_wp_p (pc' := 40) (st' := [.int (Int32.ofInt 44), .retAddr 24]) rfl rfl rfl ?_
  refine mi_wp_p (pc' := 41) (st' := [.int (Int32.ofInt 44), .retAddr 24]) rfl rfl rfl ?_
  refine ty_s_ci rfl rfl rfl rfl rfl rfl (mi_cal_v2 (np := 1) (args := [.retAddr 24, .int (Int32.ofInt 44)]) (rest := []) rfl rfl rfl rfl rfl (Nat.le_of_ble_eq_true rfl) rfl rfl (Nat.le_of_ble_eq_true rfl) rfl) (Nat.le_of_ble_eq_true rfl) S six44 ?_
  intro x hh σu S f P
  obtain ⟨e1, e2⟩ := P
  rw [e2] at S
  rw [e1]
  clear e1 e2
  replace fr := mi_Fm_tr fr f
  refine mi_s_if1 (t := 51) rfl rfl rfl (by unfold mi_R; omega) (fun hc_ => absurd (show (2 : Int) < 0 from hc_) (by omega)) (fun _ => ?_)
  refine mi_wp_p (pc' := 48) (st' := [.int (Int32.ofInt 44)]) rfl rfl rfl ?_
  refine mi_wp_p (pc' := 53) rfl rfl rfl ?_
  refine mi_wp_p (pc' := 54) (l' := [(3, .int (Int32.ofInt 44)), (0, .ref 3), (1, .int (Int32.ofInt p)), (2, .int (Int32.ofInt 44))]) (st' := []) rfl rfl rfl ?_
  refine mi_wp_p (pc' := 55) (st' := [.ref 3]) rfl rfl rfl ?_
  refine mi_wp_p (pc' := 56) (st' := [.int (Int32.ofInt 44), .ref 3]) rfl rfl rfl ?_
  refine mi_wp_p (pc' := 57) (st' := [.int (Int32.ofInt p), .int (Int32.ofInt 44), .ref 3]) rfl rfl rfl ?_
  refine mi_wp_p (pc' := 58) (st' := [.int (Int32.ofInt p), .int (Int32.ofInt p), .int (Int32.ofInt 44), .ref 3]) rfl rfl rfl ?_
  refine mi_wp_p (pc' := 59) (st' := [.int (Int32.ofInt 1), .int (Int32.ofInt p), .int (Int32.ofInt p), .int (Int32.ofInt 44), .ref 3]) rfl rfl rfl ?_
  refine mi_s_add rfl rfl ?_
  refine mi_wp_p (pc' := 61) rfl rfl rfl ?_
  refine ty_s_ci rfl rfl rfl rfl rfl rfl (mi_cal_v2 (np := 4) (args := [.ref 3, .int (Int32.ofInt 44), .int (Int32.ofInt p), .int (Int32.ofInt (p + 1)), .long (Int64.ofNat 0)]) (rest := []) rfl rfl rfl rfl rfl (Nat.le_of_ble_eq_true rfl) rfl rfl (Nat.le_of_ble_eq_true rfl) (ty_rcS S (List.mem_of_getElem? (i := 3) rfl))) (Nat.le_of_ble_eq_true rfl) S (to_add n0 n1) ?_
  intro x hh σ2 S f P
  obtain ⟨e1, e2⟩ := P
  subst e2
  rw [e1]
  clear e1
  replace fr := mi_Fm_tr fr f
  exact ty_s_ret S fr rfl rfl rfl (mi_ret_i rfl) ⟨_, rfl, ⟨rfl, rfl⟩⟩
theorem to_sym59 {X : mi_X} {σ : mi_Sg} {d : Nat} {p : Int} (n0 : 0 ≤ mi_sF σ 3 7) (n1 : mi_sF σ 3 7 ≤ 300) : ty_Ci X (d + 9) mi_M117 [(0, .ref 3), (1, .int (Int32.ofInt p)), (2, .int (Int32.ofInt 59))] σ (fun x σ' => x = p + 1 ∧ σ' = tadd σ 59 p (p + 1) 0) := by
  intro h S
  have fr := mi_Fm_rf h
  refine mi_wp_p (pc' := 1) (st' := [.int (Int32.ofInt 59)]) rfl rfl rfl ?_
  refine mi_s_k (pc' := 3) (e := 45) rfl rfl rfl (by decide +kernel) ?_
  refine mi_s_if2 (t := 30) rfl rfl rfl (by unfold mi_R; omega) (by unfold mi_R; omega) (fun _ => ?_) (fun hc_ => absurd (show (59 : Int) ≠ 45 by omega) hc_)
  refine mi_wp_p (pc' := 31) (st' := [.int (Int32.ofInt 59)]) rfl rfl rfl ?_
  refine mi_s_k (pc' := 34) (e := 128) rfl rfl rfl (by decide +kernel) ?_
  refine mi_s_if2 (t := 51) rfl rfl rfl (by unfold mi_R; omega) (by unfold mi_R; omega) (fun hc_ => absurd (show 128 ≤ (59 : Int) from hc_) (by omega)) (fun _ => ?_)
  refine mi_s_lds (i := 6) rfl rfl rfl rfl rfl ?_
  refine mi_wp_p (pc' := 40) (st' := [.int (Int32.ofInt 59), .retAddr 24]) rfl rfl rfl ?_
  refine mi_wp_p (pc' := 41) (st' := [.int (Int32.ofInt 59), .retAddr 24]) rfl rfl rfl ?_
  refine ty_s_ci rfl rfl rfl rfl rfl rfl (mi_cal_v2 (np := 1) (args := [.retAddr 24, .int (Int32.ofInt 59)]) (rest := []) rfl rfl rfl rfl rfl (Nat.le_of_ble_eq_true rfl) rfl rfl (Nat.le_of_ble_eq_true rfl) rfl) (Nat.le_of_ble_eq_true rfl) S six59 ?_
  intro x hh σu S f P
  obtain ⟨e1, e2⟩ := P
  rw [e2] at S
  rw [e1]
  clear e1 e2
  replace fr := mi_Fm_tr fr f
  refine mi_s_if1 (t := 51) rfl rfl rfl (by unfold mi_R; omega) (fun hc_ => absurd (show (3 : Int) < 0 from hc_) (by omega)) (fun _ => ?_)
  refine mi_wp_p (pc' := 48) (st' := [.int (Int32.ofInt 59)]) rfl rfl rfl ?_
  refine mi_wp_p (pc' := 53) rfl rfl rfl ?_
  refine mi_wp_p (pc' := 54) (l' := [(3, .int (Int32.ofInt 59)), (0, .ref 3), (1, .int (Int32.ofInt p)), (2, .int (Int32.ofInt 59))]) (st' := []) rfl rfl rfl ?_
  refine mi_wp_p (pc' := 55) (st' := [.ref 3]) rfl rfl rfl ?_
  refine mi_wp_p (pc' := 56) (st' := [.int (Int32.ofInt 59), .ref 3]) rfl rfl rfl ?_
  refine mi_wp_p (pc' := 57) (st' := [.int (Int32.ofInt p), .int (Int32.ofInt 59), .ref 3]) rfl rfl rfl ?_
  refine mi_wp_p (pc' := 58) (st' := [.int (Int32.ofInt p), .int (Int32.ofInt p), .int (Int32.ofInt 59), .ref 3]) rfl rfl rfl ?_
  refine mi_wp_p (pc' := 59) (st' := [.int (Int32.ofInt 1), .int (Int32.ofInt p), .int (Int32.ofInt p), .int (Int32.ofInt 59), .ref 3]) rfl rfl rfl ?_
  refine mi_s_add rfl rfl ?_
  refine mi_wp_p (pc' := 61) rfl rfl rfl ?_
  refine ty_s_ci rfl rfl rfl rfl rfl rfl (mi_cal_v2 (np := 4) (args := [.ref 3, .int (Int32.ofInt 59), .int (Int32.ofInt p), .int (Int32.ofInt (p + 1)), .long (Int64.ofNat 0)]) (rest := []) rfl rfl rfl rfl rfl (Nat.le_of_ble_eq_true rfl) rfl rfl (Nat.le_of_ble_eq_true rfl) (ty_rcS S (List.mem_of_getElem? (i := 3) rfl))) (Nat.le_of_ble_eq_true rfl) S (to_add n0 n1) ?_
  intro x hh σ2 S f P
  obtain ⟨e1, e2⟩ := P
  subst e2
  rw [e1]
  clear e1
  replace fr := mi_Fm_tr fr f
  exact ty_s_ret S fr rfl rfl rfl (mi_ret_i rfl) ⟨_, rfl, ⟨rfl, rfl⟩⟩
theorem to_sym58 {X : mi_X} {σ : mi_Sg} {d : Nat} {p : Int} (n0 : 0 ≤ mi_sF σ 3 7) (n1 : mi_sF σ 3 7 ≤ 300) : ty_Ci X (d + 9) mi_M117 [(0, .ref 3), (1, .int (Int32.ofInt p)), (2, .int (Int32.ofInt 58))] σ (fun x σ' => x = p + 1 ∧ σ' = tadd σ 58 p (p + 1) 0) := by
  intro h S
  have fr := mi_Fm_rf h
  refine mi_wp_p (pc' := 1) (st' := [.int (Int32.ofInt 58)]) rfl rfl rfl ?_
  refine mi_s_k (pc' := 3) (e := 45) rfl rfl rfl (by decide +kernel) ?_
  refine mi_s_if2 (t := 30) rfl rfl rfl (by unfold mi_R; omega) (by unfold mi_R; omega) (fun _ => ?_) (fun hc_ => absurd (show (58 : Int) ≠ 45 by omega) hc_)
  refine mi_wp_p (pc' := 31) (st' := [.int (Int32.ofInt 58)]) rfl rfl rfl ?_
  refine mi_s_k (pc' := 34) (e := 128) rfl rfl rfl (by decide +kernel) ?_
  refine mi_s_if2 (t := 51) rfl rfl rfl (by unfold mi_R; omega) (by unfold mi_R; omega) (fun hc_ => absurd (show 128 ≤ (58 : Int) from hc_) (by omega)) (fun _ => ?_)
  refine mi_s_lds (i := 6) rfl rfl rfl rfl rfl ?_
  refine mi_wp_p (pc' := 40) (st' := [.int (Int32.ofInt 58), .retAddr 24]) rfl rfl rfl ?_
  refine mi_wp_p (pc' := 41) (st' := [.int (Int32.ofInt 58), .retAddr 24]) rfl rfl rfl ?_
  refine ty_s_ci rfl rfl rfl rfl rfl rfl (mi_cal_v2 (np := 1) (args := [.retAddr 24, .int (Int32.ofInt 58)]) (rest := []) rfl rfl rfl rfl rfl (Nat.le_of_ble_eq_true rfl) rfl rfl (Nat.le_of_ble_eq_true rfl) rfl) (Nat.le_of_ble_eq_true rfl) S six58 ?_
  intro x hh σu S f P
  obtain ⟨e1, e2⟩ := P
  rw [e2] at S
  rw [e1]
  clear e1 e2
  replace fr := mi_Fm_tr fr f
  refine mi_s_if1 (t := 51) rfl rfl rfl (by unfold mi_R; omega) (fun hc_ => absurd (show (4 : Int) < 0 from hc_) (by omega)) (fun _ => ?_)
  refine mi_wp_p (pc' := 48) (st' := [.int (Int32.ofInt 58)]) rfl rfl rfl ?_
  refine mi_wp_p (pc' := 53) rfl rfl rfl ?_
  refine mi_wp_p (pc' := 54) (l' := [(3, .int (Int32.ofInt 58)), (0, .ref 3), (1, .int (Int32.ofInt p)), (2, .int (Int32.ofInt 58))]) (st' := []) rfl rfl rfl ?_
  refine mi_wp_p (pc' := 55) (st' := [.ref 3]) rfl rfl rfl ?_
  refine mi_wp_p (pc' := 56) (st' := [.int (Int32.ofInt 58), .ref 3]) rfl rfl rfl ?_
  refine mi_wp_p (pc' := 57) (st' := [.int (Int32.ofInt p), .int (Int32.ofInt 58), .ref 3]) rfl rfl rfl ?_
  refine mi_wp_p (pc' := 58) (st' := [.int (Int32.ofInt p), .int (Int32.ofInt p), .int (Int32.ofInt 58), .ref 3]) rfl rfl rfl ?_
  refine mi_wp_p (pc' := 59) (st' := [.int (Int32.ofInt 1), .int (Int32.ofInt p), .int (Int32.ofInt p), .int (Int32.ofInt 58), .ref 3]) rfl rfl rfl ?_
  refine mi_s_add rfl rfl ?_
  refine mi_wp_p (pc' := 61) rfl rfl rfl ?_
  refine ty_s_ci rfl rfl rfl rfl rfl rfl (mi_cal_v2 (np := 4) (args := [.ref 3, .int (Int32.ofInt 58), .int (Int32.ofInt p), .int (Int32.ofInt (p + 1)), .long (Int64.ofNat 0)]) (rest := []) rfl rfl rfl rfl rfl (Nat.le_of_ble_eq_true rfl) rfl rfl (Nat.le_of_ble_eq_true rfl) (ty_rcS S (List.mem_of_getElem? (i := 3) rfl))) (Nat.le_of_ble_eq_true rfl) S (to_add n0 n1) ?_
  intro x hh σ2 S f P
  obtain ⟨e1, e2⟩ := P
  subst e2
  rw [e1]
  clear e1
  replace fr := mi_Fm_tr fr f
  exact ty_s_ret S fr rfl rfl rfl (mi_ret_i rfl) ⟨_, rfl, ⟨rfl, rfl⟩⟩
theorem to_sym61 {X : mi_X} {σ : mi_Sg} {d : Nat} {p : Int} (n0 : 0 ≤ mi_sF σ 3 7) (n1 : mi_sF σ 3 7 ≤ 300) : ty_Ci X (d + 9) mi_M117 [(0, .ref 3), (1, .int (Int32.ofInt p)), (2, .int (Int32.ofInt 61))] σ (fun x σ' => x = p + 1 ∧ σ' = tadd σ 61 p (p + 1) 0) := by
  intro h S
  have fr := mi_Fm_rf h
  refine mi_wp_p (pc' := 1) (st' := [.int (Int32.ofInt 61)]) rfl rfl rfl ?_
  refine mi_s_k (pc' := 3) (e := 45) rfl rfl rfl (by decide +kernel) ?_
  refine mi_s_if2 (t := 30) rfl rfl rfl (by unfold mi_R; omega) (by unfold mi_R; omega) (fun _ => ?_) (fun hc_ => absurd (show (61 : Int) ≠ 45 by omega) hc_)
  refine mi_wp_p (pc' := 31) (st' := [.int (Int32.ofInt 61)]) rfl rfl rfl ?_
  refine mi_s_k (pc' := 34) (e := 128) rfl rfl rfl (by decide +kernel) ?_
  refine mi_s_if2 (t := 51) rfl rfl rfl (by unfold mi_R; omega) (by unfold mi_R; omega) (fun hc_ => absurd (show 128 ≤ (61 : Int) from hc_) (by omega)) (fun _ => ?_)
  refine mi_s_lds (i := 6) rfl rfl rfl rfl rfl ?_
  refine mi_wp_p (pc' := 40) (st' := [.int (Int32.ofInt 61), .retAddr 24]) rfl rfl rfl ?_
  refine mi_wp_p (pc' := 41) (st' := [.int (Int32.ofInt 61), .retAddr 24]) rfl rfl rfl ?_
  refine ty_s_ci rfl rfl rfl rfl rfl rfl (mi_cal_v2 (np := 1) (args := [.retAddr 24, .int (Int32.ofInt 61)]) (rest := []) rfl rfl rfl rfl rfl (Nat.le_of_ble_eq_true rfl) rfl rfl (Nat.le_of_ble_eq_true rfl) rfl) (Nat.le_of_ble_eq_true rfl) S six61 ?_
  intro x hh σu S f P
  obtain ⟨e1, e2⟩ := P
  rw [e2] at S
  rw [e1]
  clear e1 e2
  replace fr := mi_Fm_tr fr f
  refine mi_s_if1 (t := 51) rfl rfl rfl (by unfold mi_R; omega) (fun hc_ => absurd (show (5 : Int) < 0 from hc_) (by omega)) (fun _ => ?_)
  refine mi_wp_p (pc' := 48) (st' := [.int (Int32.ofInt 61)]) rfl rfl rfl ?_
  refine mi_wp_p (pc' := 53) rfl rfl rfl ?_
  refine mi_wp_p (pc' := 54) (l' := [(3, .int (Int32.ofInt 61)), (0, .ref 3), (1, .int (Int32.ofInt p)), (2, .int (Int32.ofInt 61))]) (st' := []) rfl rfl rfl ?_
  refine mi_wp_p (pc' := 55) (st' := [.ref 3]) rfl rfl rfl ?_
  refine mi_wp_p (pc' := 56) (st' := [.int (Int32.ofInt 61), .ref 3]) rfl rfl rfl ?_
  refine mi_wp_p (pc' := 57) (st' := [.int (Int32.ofInt p), .int (Int32.ofInt 61), .ref 3]) rfl rfl rfl ?_
  refine mi_wp_p (pc' := 58) (st' := [.int (Int32.ofInt p), .int (Int32.ofInt p), .int (Int32.ofInt 61), .ref 3]) rfl rfl rfl ?_
  refine mi_wp_p (pc' := 59) (st' := [.int (Int32.ofInt 1), .int (Int32.ofInt p), .int (Int32.ofInt p), .int (Int32.ofInt 61), .ref 3]) rfl rfl rfl ?_
  refine mi_s_add rfl rfl ?_
  refine mi_wp_p (pc' := 61) rfl rfl rfl ?_
  refine ty_s_ci rfl rfl rfl rfl rfl rfl (mi_cal_v2 (np := 4) (args := [.ref 3, .int (Int32.ofInt 61), .int (Int32.ofInt p), .int (Int32.ofInt (p + 1)), .long (Int64.ofNat 0)]) (rest := []) rfl rfl rfl rfl rfl (Nat.le_of_ble_eq_true rfl) rfl rfl (Nat.le_of_ble_eq_true rfl) (ty_rcS S (List.mem_of_getElem? (i := 3) rfl))) (Nat.le_of_ble_eq_true rfl) S (to_add n0 n1) ?_
  intro x hh σ2 S f P
  obtain ⟨e1, e2⟩ := P
  subst e2
  rw [e1]
  clear e1
  replace fr := mi_Fm_tr fr f
  exact ty_s_ret S fr rfl rfl rfl (mi_ret_i rfl) ⟨_, rfl, ⟨rfl, rfl⟩⟩
theorem to_sym42 {X : mi_X} {σ : mi_Sg} {d : Nat} {p : Int} (n0 : 0 ≤ mi_sF σ 3 7) (n1 : mi_sF σ 3 7 ≤ 300) : ty_Ci X (d + 9) mi_M117 [(0, .ref 3), (1, .int (Int32.ofInt p)), (2, .int (Int32.ofInt 42))] σ (fun x σ' => x = p + 1 ∧ σ' = tadd σ 42 p (p + 1) 0) := by
  intro h S
  have fr := mi_Fm_rf h
  refine mi_wp_p (pc' := 1) (st' := [.int (Int32.ofInt 42)]) rfl rfl rfl ?_
  refine mi_s_k (pc' := 3) (e := 45) rfl rfl rfl (by decide +kernel) ?_
  refine mi_s_if2 (t := 30) rfl rfl rfl (by unfold mi_R; omega) (by unfold mi_R; omega) (fun _ => ?_) (fun hc_ => absurd (show (42 : Int) ≠ 45 by omega) hc_)
  refine mi_wp_p (pc' := 31) (st' := [.int (Int32.ofInt 42)]) rfl rfl rfl ?_
  refine mi_s_k (pc' := 34) (e := 128) rfl rfl rfl (by decide +kernel) ?_
  refine mi_s_if2 (t := 51) rfl rfl rfl (by unfold mi_R; omega) (by unfold mi_R; omega) (fun hc_ => absurd (show 128 ≤ (42 : Int) from hc_) (by omega)) (fun _ => ?_)
  refine mi_s_lds (i := 6) rfl rfl rfl rfl rfl ?_
  refine mi_wp_p (pc' := 40) (st' := [.int (Int32.ofInt 42), .retAddr 24]) rfl rfl rfl ?_
  refine mi_wp_p (pc' := 41) (st' := [.int (Int32.ofInt 42), .retAddr 24]) rfl rfl rfl ?_
  refine ty_s_ci rfl rfl rfl rfl rfl rfl (mi_cal_v2 (np := 1) (args := [.retAddr 24, .int (Int32.ofInt 42)]) (rest := []) rfl rfl rfl rfl rfl (Nat.le_of_ble_eq_true rfl) rfl rfl (Nat.le_of_ble_eq_true rfl) rfl) (Nat.le_of_ble_eq_true rfl) S six42 ?_
  intro x hh σu S f P
  obtain ⟨e1, e2⟩ := P
  rw [e2] at S
  rw [e1]
  clear e1 e2
  replace fr := mi_Fm_tr fr f
  refine mi_s_if1 (t := 51) rfl rfl rfl (by unfold mi_R; omega) (fun hc_ => absurd (show (9 : Int) < 0 from hc_) (by omega)) (fun _ => ?_)
  refine mi_wp_p (pc' := 48) (st' := [.int (Int32.ofInt 42)]) rfl rfl rfl ?_
  refine mi_wp_p (pc' := 53) rfl rfl rfl ?_
  refine mi_wp_p (pc' := 54) (l' := [(3, .int (Int32.ofInt 42)), (0, .ref 3), (1, .int (Int32.ofInt p)), (2, .int (Int32.ofInt 42))]) (st' := []) rfl rfl rfl ?_
  refine mi_wp_p (pc' := 55) (st' := [.ref 3]) rfl rfl rfl ?_
  refine mi_wp_p (pc' := 56) (st' := [.int (Int32.ofInt 42), .ref 3]) rfl rfl rfl ?_
  refine mi_wp_p (pc' := 57) (st' := [.int (Int32.ofInt p), .int (Int32.ofInt 42), .ref 3]) rfl rfl rfl ?_
  refine mi_wp_p (pc' := 58) (st' := [.int (Int32.ofInt p), .int (Int32.ofInt p), .int (Int32.ofInt 42), .ref 3]) rfl rfl rfl ?_
  refine mi_wp_p (pc' := 59) (st' := [.int (Int32.ofInt 1), .int (Int32.ofInt p), .int (Int32.ofInt p), .int (Int32.ofInt 42), .ref 3]) rfl rfl rfl ?_
  refine mi_s_add rfl rfl ?_
  refine mi_wp_p (pc' := 61) rfl rfl rfl ?_
  refine ty_s_ci rfl rfl rfl rfl rfl rfl (mi_cal_v2 (np := 4) (args := [.ref 3, .int (Int32.ofInt 42), .int (Int32.ofInt p), .int (Int32.ofInt (p + 1)), .long (Int64.ofNat 0)]) (rest := []) rfl rfl rfl rfl rfl (Nat.le_of_ble_eq_true rfl) rfl rfl (Nat.le_of_ble_eq_true rfl) (ty_rcS S (List.mem_of_getElem? (i := 3) rfl))) (Nat.le_of_ble_eq_true rfl) S (to_add n0 n1) ?_
  intro x hh σ2 S f P
  obtain ⟨e1, e2⟩ := P
  subst e2
  rw [e1]
  clear e1
  replace fr := mi_Fm_tr fr f
  exact ty_s_ret S fr rfl rfl rfl (mi_ret_i rfl) ⟨_, rfl, ⟨rfl, rfl⟩⟩
theorem to_arrow {X : mi_X} {σ : mi_Sg} {d : Nat} {p : Int} (n0 : 0 ≤ mi_sF σ 3 7) (n1 : mi_sF σ 3 7 ≤ 300) (t : tpx σ) (p0 : 0 ≤ p) (p1 : p + 1 < mi_sF σ 3 6) (hA : mi_sA σ 1 (p + 1) = 62) : ty_Ci X (d + 9) mi_M117 [(0, .ref 3), (1, .int (Int32.ofInt p)), (2, .int (Int32.ofInt 45))] σ (fun x σ' => x = p + 2 ∧ σ' = tadd σ 17 p (p + 2) 0) := by
  intro h S
  have fr := mi_Fm_rf h
  have t1 := t.1.2
  refine mi_wp_p (pc' := 1) (st' := [.int (Int32.ofInt 45)]) rfl rfl rfl ?_
  refine mi_s_k (pc' := 3) (e := 45) rfl rfl rfl (by decide +kernel) ?_
  refine mi_s_if2 (t := 30) rfl rfl rfl (by unfold mi_R; omega) (by unfold mi_R; omega) (fun hc_ => absurd (show (45 : Int) ≠ 45 from hc_) (by omega)) (fun _ => ?_)
  refine mi_wp_p (pc' := 7) (st' := [.ref 3]) rfl rfl rfl ?_
  refine mi_wp_p (pc' := 8) (st' := [.int (Int32.ofInt p), .ref 3]) rfl rfl rfl ?_
  refine mi_wp_p (pc' := 9) (st' := [.int (Int32.ofInt 1), .int (Int32.ofInt p), .ref 3]) rfl rfl rfl ?_
  refine mi_s_add rfl rfl ?_
  refine ty_s_ci rfl rfl rfl rfl rfl rfl (mi_cal_v2 (np := 1) (args := [.ref 3, .int (Int32.ofInt (p + 1))]) (rest := []) rfl rfl rfl rfl rfl (Nat.le_of_ble_eq_true rfl) rfl rfl (Nat.le_of_ble_eq_true rfl) (ty_rcS S (List.mem_of_getElem? (i := 3) rfl))) (Nat.le_of_ble_eq_true rfl) S (to_byteOf t (by omega) (by omega)) ?_
  intro x hh σu S f P
  obtain ⟨e1, e2⟩ := P
  rw [e2] at S
  rw [e1]
  clear e1 e2
  replace fr := mi_Fm_tr fr f
  refine mi_s_k (pc' := 15) (e := 62) rfl rfl rfl (by decide +kernel) ?_
  refine mi_s_if2 (t := 30) rfl rfl rfl (by unfold mi_R; omega) (by unfold mi_R; omega) (fun hc_ => absurd (show (mi_sA σ 1 (p + 1)) ≠ 62 from hc_) (by omega)) (fun _ => ?_)
  refine mi_wp_p (pc' := 19) (st' := [.ref 3]) rfl rfl rfl ?_
  refine mi_s_k (pc' := 21) (e := 17) rfl rfl rfl (by decide +kernel) ?_
  refine mi_wp_p (pc' := 22) (st' := [.int (Int32.ofInt p), .int (Int32.ofInt 17), .ref 3]) rfl rfl rfl ?_
  refine mi_wp_p (pc' := 23) (st' := [.int (Int32.ofInt p), .int (Int32.ofInt p), .int (Int32.ofInt 17), .ref 3]) rfl rfl rfl ?_
  refine mi_wp_p (pc' := 24) (st' := [.int (Int32.ofInt 2), .int (Int32.ofInt p), .int (Int32.ofInt p), .int (Int32.ofInt 17), .ref 3]) rfl rfl rfl ?_
  refine mi_s_add rfl rfl ?_
  refine mi_wp_p (pc' := 26) rfl rfl rfl ?_
  refine ty_s_ci rfl rfl rfl rfl rfl rfl (mi_cal_v2 (np := 4) (args := [.ref 3, .int (Int32.ofInt 17), .int (Int32.ofInt p), .int (Int32.ofInt (p + 2)), .long (Int64.ofNat 0)]) (rest := []) rfl rfl rfl rfl rfl (Nat.le_of_ble_eq_true rfl) rfl rfl (Nat.le_of_ble_eq_true rfl) (ty_rcS S (List.mem_of_getElem? (i := 3) rfl))) (Nat.le_of_ble_eq_true rfl) S (to_add n0 n1) ?_
  intro x hh σ2 S f P
  obtain ⟨e1, e2⟩ := P
  subst e2
  rw [e1]
  clear e1
  replace fr := mi_Fm_tr fr f
  exact ty_s_ret S fr rfl rfl rfl (mi_ret_i rfl) ⟨_, rfl, ⟨rfl, rfl⟩⟩
theorem to_end {X : mi_X} {σ : mi_Sg} {d : Nat} {p : Int} (n0 : 0 ≤ mi_sF σ 3 7) (n1 : mi_sF σ 3 7 ≤ 300) (t : tpx σ) (p0 : p = mi_sF σ 3 6) : ty_Ci X (d + 1) mi_M118 [(0, .ref 3), (1, .int (Int32.ofInt p))] σ (fun x σ' => x = p + 1 ∧ σ' = tadd σ 18 p (p + 1) 0) := by
  intro h S
  have fr := mi_Fm_rf h
  have t0 := t.1.1
  have t1 := t.1.2
  refine mi_wp_p (pc' := 1) (st' := [.ref 3]) rfl rfl rfl ?_
  refine mi_wp_p (pc' := 2) (st' := [.int (Int32.ofInt p), .ref 3]) rfl rfl rfl ?_
  refine ty_s_ci rfl rfl rfl rfl rfl rfl (mi_cal_v2 (np := 1) (args := [.ref 3, .int (Int32.ofInt p)]) (rest := []) rfl rfl rfl rfl rfl (Nat.le_of_ble_eq_true rfl) rfl rfl (Nat.le_of_ble_eq_true rfl) (ty_rcS S (List.mem_of_getElem? (i := 3) rfl))) (Nat.le_of_ble_eq_true rfl) S (to_byteEnd t (by omega) (by omega) (by omega)) ?_
  intro x hh σu S f P
  obtain ⟨e1, e2⟩ := P
  rw [e2] at S
  rw [e1]
  clear e1 e2
  replace fr := mi_Fm_tr fr f
  refine mi_wp_p (pc' := 6) (l' := [(2, .int (Int32.ofInt (-1))), (0, .ref 3), (1, .int (Int32.ofInt p))]) (st' := []) rfl rfl rfl ?_
  refine mi_wp_p (pc' := 7) (st' := [.int (Int32.ofInt (-1))]) rfl rfl rfl ?_
  refine mi_s_if1 (t := 22) rfl rfl rfl (by unfold mi_R; omega) (fun hc_ => absurd (show 0 ≤ ((-1) : Int) from hc_) (by omega)) (fun _ => ?_)
  refine mi_wp_p (pc' := 11) (st' := [.ref 3]) rfl rfl rfl ?_
  refine mi_s_k (pc' := 13) (e := 18) rfl rfl rfl (by decide +kernel) ?_
  refine mi_wp_p (pc' := 14) (st' := [.int (Int32.ofInt p), .int (Int32.ofInt 18), .ref 3]) rfl rfl rfl ?_
  refine mi_wp_p (pc' := 15) (st' := [.int (Int32.ofInt p), .int (Int32.ofInt p), .int (Int32.ofInt 18), .ref 3]) rfl rfl rfl ?_
  refine mi_wp_p (pc' := 16) (st' := [.int (Int32.ofInt 1), .int (Int32.ofInt p), .int (Int32.ofInt p), .int (Int32.ofInt 18), .ref 3]) rfl rfl rfl ?_
  refine mi_s_add rfl rfl ?_
  refine mi_wp_p (pc' := 18) rfl rfl rfl ?_
  refine ty_s_ci rfl rfl rfl rfl rfl rfl (mi_cal_v2 (np := 4) (args := [.ref 3, .int (Int32.ofInt 18), .int (Int32.ofInt p), .int (Int32.ofInt (p + 1)), .long (Int64.ofNat 0)]) (rest := []) rfl rfl rfl rfl rfl (Nat.le_of_ble_eq_true rfl) rfl rfl (Nat.le_of_ble_eq_true rfl) (ty_rcS S (List.mem_of_getElem? (i := 3) rfl))) (Nat.le_of_ble_eq_true rfl) S (to_add n0 n1) ?_
  intro x hh σ2 S f P
  obtain ⟨e1, e2⟩ := P
  subst e2
  rw [e1]
  clear e1
  replace fr := mi_Fm_tr fr f
  exact ty_s_ret S fr rfl rfl rfl (mi_ret_i rfl) ⟨_, rfl, ⟨rfl, rfl⟩⟩
theorem to_tw {X : mi_X} {σ : mi_Sg} {d : Nat} {p : Int} {P : Int → mi_Sg → Prop} (n0 : 0 ≤ mi_sF σ 3 7) (n2 : mi_sF σ 3 7 < 300) (t : tpx σ) (p0 : 0 ≤ p) (p1 : p < mi_sF σ 3 6) (v1 : 97 ≤ mi_sA σ 1 p) (v2 : mi_sA σ 1 p ≤ 122) (H : ty_Ci X (d + 1) mi_M119 [(0, .ref 3), (1, .int (Int32.ofInt p)), (2, .int (Int32.ofInt 13))] σ P) : ty_Ci X (d + 2) mi_M118 [(0, .ref 3), (1, .int (Int32.ofInt p))] σ (fun x σ' => P x σ') := by
  intro h S
  have fr := mi_Fm_rf h
  have t0 := t.1.1
  have t1 := t.1.2
  have n1 : mi_sF σ 3 7 ≤ 300 := by omega
  refine mi_wp_p (pc' := 1) (st' := [.ref 3]) rfl rfl rfl ?_
  refine mi_wp_p (pc' := 2) (st' := [.int (Int32.ofInt p), .ref 3]) rfl rfl rfl ?_
  refine ty_s_ci rfl rfl rfl rfl rfl rfl (mi_cal_v2 (np := 1) (args := [.ref 3, .int (Int32.ofInt p)]) (rest := []) rfl rfl rfl rfl rfl (Nat.le_of_ble_eq_true rfl) rfl rfl (Nat.le_of_ble_eq_true rfl) (ty_rcS S (List.mem_of_getElem? (i := 3) rfl))) (Nat.le_of_ble_eq_true rfl) S (to_byteOf t (by omega) (by omega)) ?_
  intro x hh σu S f P
  obtain ⟨e1, e2⟩ := P
  rw [e2] at S
  rw [e1]
  clear e1 e2
  replace fr := mi_Fm_tr fr f
  refine mi_wp_p (pc' := 6) (l' := [(2, .int (Int32.ofInt (mi_sA σ 1 p))), (0, .ref 3), (1, .int (Int32.ofInt p))]) (st' := []) rfl rfl rfl ?_
  refine mi_wp_p (pc' := 7) (st' := [.int (Int32.ofInt (mi_sA σ 1 p))]) rfl rfl rfl ?_
  refine mi_s_if1 (t := 22) rfl rfl rfl (by unfold mi_R; omega) (fun _ => ?_) (fun hc_ => absurd (show 0 ≤ (mi_sA σ 1 p) by omega) hc_)
  refine mi_wp_p (pc' := 23) (st' := [.ref 3]) rfl rfl rfl ?_
  refine ty_s_gf (x := mi_sF σ 3 7) S rfl rfl rfl (List.mem_of_getElem? (i := 4) rfl) rfl ?_
  refine mi_s_k (pc' := 29) (e := 300) rfl rfl rfl (by decide +kernel) ?_
  refine mi_s_if2 (t := 44) rfl rfl rfl (by unfold mi_R; omega) (by unfold mi_R; omega) (fun _ => ?_) (fun hc_ => absurd (show (mi_sF σ 3 7) < 300 by omega) hc_)
  refine mi_wp_p (pc' := 45) (st' := [.int (Int32.ofInt (mi_sA σ 1 p))]) rfl rfl rfl ?_
  refine ty_s_ci rfl rfl rfl rfl rfl rfl (mi_cal_s2 (np := 1) (args := [.int (Int32.ofInt (mi_sA σ 1 p))]) (rest := []) rfl rfl rfl (Or.inl rfl) rfl (Nat.le_of_ble_eq_true rfl) rfl rfl (Nat.le_of_ble_eq_true rfl)) (Nat.le_of_ble_eq_true rfl) S (to_isSmall1 v1 v2) ?_
  intro x hh σu S f P
  obtain ⟨e1, e2⟩ := P
  rw [e2] at S
  rw [e1]
  clear e1 e2
  replace fr := mi_Fm_tr fr f
  refine mi_s_if1 (t := 58) rfl rfl rfl (by unfold mi_R; omega) (fun _ => ?_) (fun hc_ => absurd (show (1 : Int) ≠ 0 by omega) hc_)
  refine mi_wp_p (pc' := 59) (st' := [.ref 3]) rfl rfl rfl ?_
  refine mi_wp_p (pc' := 60) (st' := [.int (Int32.ofInt p), .ref 3]) rfl rfl rfl ?_
  refine mi_wp_p (pc' := 61) (st' := [.int (Int32.ofInt (mi_sA σ 1 p)), .int (Int32.ofInt p), .ref 3]) rfl rfl rfl ?_
  refine ty_s_ci rfl rfl rfl rfl rfl rfl (mi_cal_s2 (np := 1) (args := [.int (Int32.ofInt (mi_sA σ 1 p))]) (rest := [.int (Int32.ofInt p), .ref 3]) rfl rfl rfl (Or.inl rfl) rfl (Nat.le_of_ble_eq_true rfl) rfl rfl (Nat.le_of_ble_eq_true rfl)) (Nat.le_of_ble_eq_true rfl) S (to_isSmall1 v1 v2) ?_
  intro x hh σu S f P
  obtain ⟨e1, e2⟩ := P
  rw [e2] at S
  rw [e1]
  clear e1 e2
  replace fr := mi_Fm_tr fr f
  refine mi_s_if1 (t := 72) rfl rfl rfl (by unfold mi_R; omega) (fun hc_ => absurd (show (1 : Int) = 0 from hc_) (by omega)) (fun _ => ?_)
  refine mi_s_k (pc' := 69) (e := 13) rfl rfl rfl (by decide +kernel) ?_
  refine mi_wp_p (pc' := 74) rfl rfl rfl ?_
  refine ty_s_ci rfl rfl rfl rfl rfl rfl (mi_cal_v2 (np := 2) (args := [.ref 3, .int (Int32.ofInt p), .int (Int32.ofInt 13)]) (rest := []) rfl rfl rfl rfl rfl (Nat.le_of_ble_eq_true rfl) rfl rfl (Nat.le_of_ble_eq_true rfl) (ty_rcS S (List.mem_of_getElem? (i := 3) rfl))) (Nat.le_of_ble_eq_true rfl) S H ?_
  intro x hh σ1 S f P1
  replace fr := mi_Fm_tr fr f
  exact ty_s_ret S fr rfl rfl rfl (mi_ret_i rfl) ⟨_, rfl, P1⟩
theorem to_tm {X : mi_X} {σ : mi_Sg} {d : Nat} {p b : Int} (n0 : 0 ≤ mi_sF σ 3 7) (n2 : mi_sF σ 3 7 < 300) (t : tpx σ) (p0 : 0 ≤ p) (p1 : p + 1 < mi_sF σ 3 6) (hq : mi_sA σ 1 p = 39) (hb : mi_sA σ 1 (p + 1) = b) (v1 : 97 ≤ b) (v2 : b ≤ 122) : ty_Ci X (d + 2) mi_M118 [(0, .ref 3), (1, .int (Int32.ofInt p))] σ (fun x σ' => x = p + 2 ∧ σ' = tadd σ 15 p (p + 2) (Int32.ofInt b).toInt64) := by
  intro h S
  have fr := mi_Fm_rf h
  have t0 := t.1.1
  have t1 := t.1.2
  have n1 : mi_sF σ 3 7 ≤ 300 := by omega
  refine mi_wp_p (pc' := 1) (st' := [.ref 3]) rfl rfl rfl ?_
  refine mi_wp_p (pc' := 2) (st' := [.int (Int32.ofInt p), .ref 3]) rfl rfl rfl ?_
  refine ty_s_ci rfl rfl rfl rfl rfl rfl (mi_cal_v2 (np := 1) (args := [.ref 3, .int (Int32.ofInt p)]) (rest := []) rfl rfl rfl rfl rfl (Nat.le_of_ble_eq_true rfl) rfl rfl (Nat.le_of_ble_eq_true rfl) (ty_rcS S (List.mem_of_getElem? (i := 3) rfl))) (Nat.le_of_ble_eq_true rfl) S (to_byteOf t (by omega) (by omega)) ?_
  intro x hh σu S f P
  obtain ⟨e1, e2⟩ := P
  rw [e2] at S
  rw [e1, hq]
  clear e1 e2
  replace fr := mi_Fm_tr fr f
  refine mi_wp_p (pc' := 6) (l' := [(2, .int (Int32.ofInt 39)), (0, .ref 3), (1, .int (Int32.ofInt p))]) (st' := []) rfl rfl rfl ?_
  refine mi_wp_p (pc' := 7) (st' := [.int (Int32.ofInt 39)]) rfl rfl rfl ?_
  refine mi_s_if1 (t := 22) rfl rfl rfl (by unfold mi_R; omega) (fun _ => ?_) (fun hc_ => absurd (show 0 ≤ (39 : Int) by omega) hc_)
  refine mi_wp_p (pc' := 23) (st' := [.ref 3]) rfl rfl rfl ?_
  refine ty_s_gf (x := mi_sF σ 3 7) S rfl rfl rfl (List.mem_of_getElem? (i := 4) rfl) rfl ?_
  refine mi_s_k (pc' := 29) (e := 300) rfl rfl rfl (by decide +kernel) ?_
  refine mi_s_if2 (t := 44) rfl rfl rfl (by unfold mi_R; omega) (by unfold mi_R; omega) (fun _ => ?_) (fun hc_ => absurd (show (mi_sF σ 3 7) < 300 by omega) hc_)
  refine mi_wp_p (pc' := 45) (st' := [.int (Int32.ofInt 39)]) rfl rfl rfl ?_
  refine ty_s_ci rfl rfl rfl rfl rfl rfl (mi_cal_s2 (np := 1) (args := [.int (Int32.ofInt 39)]) (rest := []) rfl rfl rfl (Or.inl rfl) rfl (Nat.le_of_ble_eq_true rfl) rfl rfl (Nat.le_of_ble_eq_true rfl)) (Nat.le_of_ble_eq_true rfl) S (to_isSmall0 (by omega) (by omega) (Or.inl (by omega))) ?_
  intro x hh σu S f P
  obtain ⟨e1, e2⟩ := P
  rw [e2] at S
  rw [e1]
  clear e1 e2
  replace fr := mi_Fm_tr fr f
  refine mi_s_if1 (t := 58) rfl rfl rfl (by unfold mi_R; omega) (fun hc_ => absurd (show (0 : Int) ≠ 0 from hc_) (by omega)) (fun _ => ?_)
  refine mi_wp_p (pc' := 52) (st' := [.int (Int32.ofInt 39)]) rfl rfl rfl ?_
  refine ty_s_ci rfl rfl rfl rfl rfl rfl (mi_cal_s2 (np := 1) (args := [.int (Int32.ofInt 39)]) (rest := []) rfl rfl rfl (Or.inl rfl) rfl (Nat.le_of_ble_eq_true rfl) rfl rfl (Nat.le_of_ble_eq_true rfl)) (Nat.le_of_ble_eq_true rfl) S (to_isGreat0 (by omega) (by omega) (Or.inl (by omega))) ?_
  intro x hh σu S f P
  obtain ⟨e1, e2⟩ := P
  rw [e2] at S
  rw [e1]
  clear e1 e2
  replace fr := mi_Fm_tr fr f
  refine mi_s_if1 (t := 78) rfl rfl rfl (by unfold mi_R; omega) (fun _ => ?_) (fun hc_ => absurd (show (0 : Int) = 0 by omega) hc_)
  refine mi_wp_p (pc' := 79) (st' := [.int (Int32.ofInt 39)]) rfl rfl rfl ?_
  refine ty_s_ci rfl rfl rfl rfl rfl rfl (mi_cal_s2 (np := 1) (args := [.int (Int32.ofInt 39)]) (rest := []) rfl rfl rfl (Or.inl rfl) rfl (Nat.le_of_ble_eq_true rfl) rfl rfl (Nat.le_of_ble_eq_true rfl)) (Nat.le_of_ble_eq_true rfl) S (to_isDigit0 (by omega) (by omega) (Or.inl (by omega))) ?_
  intro x hh σu S f P
  obtain ⟨e1, e2⟩ := P
  rw [e2] at S
  rw [e1]
  clear e1 e2
  replace fr := mi_Fm_tr fr f
  refine mi_s_if1 (t := 91) rfl rfl rfl (by unfold mi_R; omega) (fun _ => ?_) (fun hc_ => absurd (show (0 : Int) = 0 by omega) hc_)
  refine mi_wp_p (pc' := 92) (st' := [.int (Int32.ofInt 39)]) rfl rfl rfl ?_
  refine mi_s_k (pc' := 94) (e := 39) rfl rfl rfl (by decide +kernel) ?_
  refine mi_s_if2 (t := 130) rfl rfl rfl (by unfold mi_R; omega) (by unfold mi_R; omega) (fun hc_ => absurd (show (39 : Int) ≠ 39 from hc_) (by omega)) (fun _ => ?_)
  refine mi_wp_p (pc' := 98) (st' := [.ref 3]) rfl rfl rfl ?_
  refine mi_wp_p (pc' := 99) (st' := [.int (Int32.ofInt p), .ref 3]) rfl rfl rfl ?_
  refine mi_wp_p (pc' := 100) (st' := [.int (Int32.ofInt 1), .int (Int32.ofInt p), .ref 3]) rfl rfl rfl ?_
  refine mi_s_add rfl rfl ?_
  refine ty_s_ci rfl rfl rfl rfl rfl rfl (mi_cal_v2 (np := 1) (args := [.ref 3, .int (Int32.ofInt (p + 1))]) (rest := []) rfl rfl rfl rfl rfl (Nat.le_of_ble_eq_true rfl) rfl rfl (Nat.le_of_ble_eq_true rfl) (ty_rcS S (List.mem_of_getElem? (i := 3) rfl))) (Nat.le_of_ble_eq_true rfl) S (to_byteOf t (by omega) (by omega)) ?_
  intro x hh σu S f P
  obtain ⟨e1, e2⟩ := P
  rw [e2] at S
  rw [e1, hb]
  clear e1 e2
  replace fr := mi_Fm_tr fr f
  refine mi_wp_p (pc' := 105) (l' := [(3, .int (Int32.ofInt b)), (2, .int (Int32.ofInt 39)), (0, .ref 3), (1, .int (Int32.ofInt p))]) (st' := []) rfl rfl rfl ?_
  refine mi_wp_p (pc' := 106) (st' := [.ref 3]) rfl rfl rfl ?_
  refine mi_wp_p (pc' := 107) (st' := [.int (Int32.ofInt b), .ref 3]) rfl rfl rfl ?_
  refine ty_s_ci rfl rfl rfl rfl rfl rfl (mi_cal_s2 (np := 1) (args := [.int (Int32.ofInt b)]) (rest := [.ref 3]) rfl rfl rfl (Or.inl rfl) rfl (Nat.le_of_ble_eq_true rfl) rfl rfl (Nat.le_of_ble_eq_true rfl)) (Nat.le_of_ble_eq_true rfl) S (to_isSmall1 v1 v2) ?_
  intro x hh σu S f P
  obtain ⟨e1, e2⟩ := P
  rw [e2] at S
  rw [e1]
  clear e1 e2
  replace fr := mi_Fm_tr fr f
  refine mi_s_if1 (t := 118) rfl rfl rfl (by unfold mi_R; omega) (fun hc_ => absurd (show (1 : Int) = 0 from hc_) (by omega)) (fun _ => ?_)
  refine mi_s_k (pc' := 115) (e := 15) rfl rfl rfl (by decide +kernel) ?_
  refine mi_wp_p (pc' := 120) rfl rfl rfl ?_
  refine mi_wp_p (pc' := 121) (st' := [.int (Int32.ofInt p), .int (Int32.ofInt 15), .ref 3]) rfl rfl rfl ?_
  refine mi_wp_p (pc' := 122) (st' := [.int (Int32.ofInt p), .int (Int32.ofInt p), .int (Int32.ofInt 15), .ref 3]) rfl rfl rfl ?_
  refine mi_wp_p (pc' := 123) (st' := [.int (Int32.ofInt 2), .int (Int32.ofInt p), .int (Int32.ofInt p), .int (Int32.ofInt 15), .ref 3]) rfl rfl rfl ?_
  refine mi_s_add rfl rfl ?_
  refine mi_wp_p (pc' := 125) (st' := [.int (Int32.ofInt b), .int (Int32.ofInt (p + 2)), .int (Int32.ofInt p), .int (Int32.ofInt 15), .ref 3]) rfl rfl rfl ?_
  refine mi_wp_p (pc' := 126) (st' := [.long ((Int32.ofInt b).toInt64), .int (Int32.ofInt (p + 2)), .int (Int32.ofInt p), .int (Int32.ofInt 15), .ref 3]) rfl rfl rfl ?_
  refine ty_s_ci rfl rfl rfl rfl rfl rfl (mi_cal_v2 (np := 4) (args := [.ref 3, .int (Int32.ofInt 15), .int (Int32.ofInt p), .int (Int32.ofInt (p + 2)), .long ((Int32.ofInt b).toInt64)]) (rest := []) rfl rfl rfl rfl rfl (Nat.le_of_ble_eq_true rfl) rfl rfl (Nat.le_of_ble_eq_true rfl) (ty_rcS S (List.mem_of_getElem? (i := 3) rfl))) (Nat.le_of_ble_eq_true rfl) S (to_add n0 n1) ?_
  intro x hh σ2 S f P
  obtain ⟨e1, e2⟩ := P
  subst e2
  rw [e1]
  clear e1
  replace fr := mi_Fm_tr fr f
  exact ty_s_ret S fr rfl rfl rfl (mi_ret_i rfl) ⟨_, rfl, ⟨rfl, rfl⟩⟩
theorem to_ts {X : mi_X} {σ : mi_Sg} {d : Nat} {p b : Int} {P : Int → mi_Sg → Prop} (n0 : 0 ≤ mi_sF σ 3 7) (n2 : mi_sF σ 3 7 < 300) (t : tpx σ) (p0 : 0 ≤ p) (p1 : p < mi_sF σ 3 6) (hb : mi_sA σ 1 p = b) (v0 : 0 ≤ b) (v1 : b < 65) (v2 : b < 48 ∨ 57 < b) (v3 : b ≠ 39) (H : ty_Ci X (d + 1) mi_M117 [(0, .ref 3), (1, .int (Int32.ofInt p)), (2, .int (Int32.ofInt b))] σ P) : ty_Ci X (d + 2) mi_M118 [(0, .ref 3), (1, .int (Int32.ofInt p))] σ (fun x σ' => P x σ') := by
  intro h S
  have fr := mi_Fm_rf h
  have t0 := t.1.1
  have t1 := t.1.2
  have n1 : mi_sF σ 3 7 ≤ 300 := by omega
  refine mi_wp_p (pc' := 1) (st' := [.ref 3]) rfl rfl rfl ?_
  refine mi_wp_p (pc' := 2) (st' := [.int (Int32.ofInt p), .ref 3]) rfl rfl rfl ?_
  refine ty_s_ci rfl rfl rfl rfl rfl rfl (mi_cal_v2 (np := 1) (args := [.ref 3, .int (Int32.ofInt p)]) (rest := []) rfl rfl rfl rfl rfl (Nat.le_of_ble_eq_true rfl) rfl rfl (Nat.le_of_ble_eq_true rfl) (ty_rcS S (List.mem_of_getElem? (i := 3) rfl))) (Nat.le_of_ble_eq_true rfl) S (to_byteOf t (by omega) (by omega)) ?_
  intro x hh σu S f P
  obtain ⟨e1, e2⟩ := P
  rw [e2] at S
  rw [e1, hb]
  clear e1 e2
  replace fr := mi_Fm_tr fr f
  refine mi_wp_p (pc' := 6) (l' := [(2, .int (Int32.ofInt b)), (0, .ref 3), (1, .int (Int32.ofInt p))]) (st' := []) rfl rfl rfl ?_
  refine mi_wp_p (pc' := 7) (st' := [.int (Int32.ofInt b)]) rfl rfl rfl ?_
  refine mi_s_if1 (t := 22) rfl rfl rfl (by unfold mi_R; omega) (fun _ => ?_) (fun hc_ => absurd (show 0 ≤ b by omega) hc_)
  refine mi_wp_p (pc' := 23) (st' := [.ref 3]) rfl rfl rfl ?_
  refine ty_s_gf (x := mi_sF σ 3 7) S rfl rfl rfl (List.mem_of_getElem? (i := 4) rfl) rfl ?_
  refine mi_s_k (pc' := 29) (e := 300) rfl rfl rfl (by decide +kernel) ?_
  refine mi_s_if2 (t := 44) rfl rfl rfl (by unfold mi_R; omega) (by unfold mi_R; omega) (fun _ => ?_) (fun hc_ => absurd (show (mi_sF σ 3 7) < 300 by omega) hc_)
  refine mi_wp_p (pc' := 45) (st' := [.int (Int32.ofInt b)]) rfl rfl rfl ?_
  refine ty_s_ci rfl rfl rfl rfl rfl rfl (mi_cal_s2 (np := 1) (args := [.int (Int32.ofInt b)]) (rest := []) rfl rfl rfl (Or.inl rfl) rfl (Nat.le_of_ble_eq_true rfl) rfl rfl (Nat.le_of_ble_eq_true rfl)) (Nat.le_of_ble_eq_true rfl) S (to_isSmall0 (by omega) (by omega) (Or.inl (by omega))) ?_
  intro x hh σu S f P
  obtain ⟨e1, e2⟩ := P
  rw [e2] at S
  rw [e1]
  clear e1 e2
  replace fr := mi_Fm_tr fr f
  refine mi_s_if1 (t := 58) rfl rfl rfl (by unfold mi_R; omega) (fun hc_ => absurd (show (0 : Int) ≠ 0 from hc_) (by omega)) (fun _ => ?_)
  refine mi_wp_p (pc' := 52) (st' := [.int (Int32.ofInt b)]) rfl rfl rfl ?_
  refine ty_s_ci rfl rfl rfl rfl rfl rfl (mi_cal_s2 (np := 1) (args := [.int (Int32.ofInt b)]) (rest := []) rfl rfl rfl (Or.inl rfl) rfl (Nat.le_of_ble_eq_true rfl) rfl rfl (Nat.le_of_ble_eq_true rfl)) (Nat.le_of_ble_eq_true rfl) S (to_isGreat0 (by omega) (by omega) (Or.inl (by omega))) ?_
  intro x hh σu S f P
  obtain ⟨e1, e2⟩ := P
  rw [e2] at S
  rw [e1]
  clear e1 e2
  replace fr := mi_Fm_tr fr f
  refine mi_s_if1 (t := 78) rfl rfl rfl (by unfold mi_R; omega) (fun _ => ?_) (fun hc_ => absurd (show (0 : Int) = 0 by omega) hc_)
  refine mi_wp_p (pc' := 79) (st' := [.int (Int32.ofInt b)]) rfl rfl rfl ?_
  refine ty_s_ci rfl rfl rfl rfl rfl rfl (mi_cal_s2 (np := 1) (args := [.int (Int32.ofInt b)]) (rest := []) rfl rfl rfl (Or.inl rfl) rfl (Nat.le_of_ble_eq_true rfl) rfl rfl (Nat.le_of_ble_eq_true rfl)) (Nat.le_of_ble_eq_true rfl) S (to_isDigit0 (by omega) (by omega) v2) ?_
  intro x hh σu S f P
  obtain ⟨e1, e2⟩ := P
  rw [e2] at S
  rw [e1]
  clear e1 e2
  replace fr := mi_Fm_tr fr f
  refine mi_s_if1 (t := 91) rfl rfl rfl (by unfold mi_R; omega) (fun _ => ?_) (fun hc_ => absurd (show (0 : Int) = 0 by omega) hc_)
  refine mi_wp_p (pc' := 92) (st' := [.int (Int32.ofInt b)]) rfl rfl rfl ?_
  refine mi_s_k (pc' := 94) (e := 39) rfl rfl rfl (by decide +kernel) ?_
  refine mi_s_if2 (t := 130) rfl rfl rfl (by unfold mi_R; omega) (by unfold mi_R; omega) (fun _ => ?_) (fun hc_ => absurd (show b ≠ 39 by omega) hc_)
  refine mi_wp_p (pc' := 131) (st' := [.ref 3]) rfl rfl rfl ?_
  refine mi_wp_p (pc' := 132) (st' := [.int (Int32.ofInt p), .ref 3]) rfl rfl rfl ?_
  refine mi_wp_p (pc' := 133) (st' := [.int (Int32.ofInt b), .int (Int32.ofInt p), .ref 3]) rfl rfl rfl ?_
  refine ty_s_ci rfl rfl rfl rfl rfl rfl (mi_cal_v2 (np := 2) (args := [.ref 3, .int (Int32.ofInt p), .int (Int32.ofInt b)]) (rest := []) rfl rfl rfl rfl rfl (Nat.le_of_ble_eq_true rfl) rfl rfl (Nat.le_of_ble_eq_true rfl) (ty_rcS S (List.mem_of_getElem? (i := 3) rfl))) (Nat.le_of_ble_eq_true rfl) S H ?_
  intro x hh σ1 S f P1
  replace fr := mi_Fm_tr fr f
  exact ty_s_ret S fr rfl rfl rfl (mi_ret_i rfl) ⟨_, rfl, P1⟩
