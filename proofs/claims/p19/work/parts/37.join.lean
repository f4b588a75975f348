/-! ===== join (printed by wip/gen/p_join.py) ===== -/
/-- x goes on to y -/
def ty_ln (σ : mi_Sg) (x y : Int) : mi_Sg := (σ.1, fun k i => if k = 12 then (if σ.2.1 12 i = x then y else σ.2.1 12 i) else σ.2.1 k i, σ.2.2)
theorem ty_ln_12 {σ : mi_Sg} {x y i : Int} : mi_sA (ty_ln σ x y) 12 i = if mi_sA σ 12 i = x then y else mi_sA σ 12 i := rfl
theorem ty_ln_A {σ : mi_Sg} {x y : Int} {k : Nat} (hk : k ≠ 12) (i : Int) : mi_sA (ty_ln σ x y) k i = mi_sA σ k i := if_neg hk
theorem ty_ln_F {σ : mi_Sg} {x y : Int} : sg_Af [12, 15] [] σ (ty_ln σ x y) := ⟨rfl, fun k i hk => ty_ln_A (fun e => hk (by rw [e]; decide)) i, fun _ _ _ => rfl⟩
def ty_lk (σ : mi_Sg) (x y : Int) : Prop := (0 < x ∧ x < mi_sF σ 9 8) ∧ mi_sA σ 12 x = x ∧ (0 < y ∧ y < mi_sF σ 9 8) ∧ mi_sA σ 12 y = y ∧ x ≠ y ∧ (x < mi_sF σ 9 9 → y < mi_sF σ 9 9) ∧ (x < 13 → y < 13)
theorem ty_s_ast12 {X : mi_X} {d : Nat} {M : mi_M} {pc c s : Nat} {l : mi_L} {r : List Value} {h : mi_H} {Q : mi_Z → Prop} {σ : mi_Sg} {x y : Int} (S : ty_H h σ) (ht : mi_lk (mi_th M) pc = none) (hi : mi_lk (mi_cd M) pc = some (.iastore, 1)) (hm : (12, 0, 512) ∈ mi_tA) (hL : ty_lk σ x y) (kk : ∀ h', ty_H h' (ty_ln σ x y) → mi_Fm h h' → mi_wp X d M (pc + 1) l r h' c s Q) : mi_wp X d M pc l (.int (Int32.ofInt y) :: .int (Int32.ofInt x) :: .ref 12 :: r) h c s Q := by
  obtain ⟨e0, L, t, S1, V⟩ := S
  obtain ⟨⟨x0, x1⟩, hx, ⟨y0, y1⟩, hy, hne, hf, hb⟩ := hL
  have V0 := ty_VL_of.mp V
  have hu : mi_sF σ 9 8 ≤ 512 := V0.2.1
  refine mi_s_ast S1 ht hi hm (by decide) (by decide) (Int.le_of_lt x0) (by omega) (fun h' S' f => ?_)
  obtain ⟨t', V'⟩ := ty_VL_join V0 x0 x1 hx y0 y1 hy hne hf hb
  refine kk h' ⟨e0, fun i => if i = x then y else L i, t', ?_, V'⟩ f
  have : mi_uA (mi_wL σ L) 12 x y = mi_wL (ty_ln σ x y) (fun i => if i = x then y else L i) := by
    unfold mi_uA mi_wL ty_ln
    dsimp only
    congr 2
    funext k' i'
    by_cases e : k' = 12
    · by_cases e2 : i' = x
      · rw [if_pos ⟨e, e2⟩, if_pos e, if_pos e2]
      · rw [if_neg (fun q => e2 q.2), if_pos e, if_pos e, if_neg e2]
    · rw [if_neg (fun q => e q.1), if_neg e, if_neg e, if_neg e]
  rw [← this]
  exact S'
/-- what join does: a0 and b0 are the ends of the ways of both -/
def jn_P (σ : mi_Sg) (a0 b0 w x : Int) (σ' : mi_Sg) : Prop :=
  (x = w ∧ σ' = σ ∧ a0 = b0) ∨ (a0 ≠ b0 ∧ x = w ∧ mi_sA σ 10 a0 = 3 ∧ σ' = ty_ln σ a0 b0) ∨ (a0 ≠ b0 ∧ x = w ∧ mi_sA σ 10 a0 ≠ 3 ∧ mi_sA σ 10 b0 = 3 ∧ σ' = ty_ln σ b0 a0) ∨ (a0 ≠ b0 ∧ x = -1 ∧ σ' = σ ∧ mi_sA σ 10 a0 ≠ 3 ∧ mi_sA σ 10 b0 ≠ 3 ∧ (mi_sA σ 10 a0 ≠ mi_sA σ 10 b0 ∨ mi_sA σ 10 a0 = 4)) ∨ (a0 ≠ b0 ∧ x = w + 1 ∧ mi_sA σ 10 a0 ≠ 3 ∧ mi_sA σ 10 a0 ≠ 4 ∧ mi_sA σ 10 a0 = mi_sA σ 10 b0 ∧ σ' = mi_uA (ty_ln σ (max a0 b0) (min a0 b0)) 15 w (max a0 b0))
theorem ty_join {X : mi_X} {σ : mi_Sg} {d : Nat} {a b w : Int} (a0 : 0 ≤ a) (a1 : a < mi_sF σ 9 8) (b0 : 0 ≤ b) (b1 : b < mi_sF σ 9 8) (hw : 0 ≤ w ∧ w < 512) (ta : 0 ≤ mi_sA σ 10 (mi_sA σ 12 a) ∧ mi_sA σ 10 (mi_sA σ 12 a) ≤ 100) (tb : 0 ≤ mi_sA σ 10 (mi_sA σ 12 b) ∧ mi_sA σ 10 (mi_sA σ 12 b) ≤ 100) (l1 : mi_sA σ 12 a ≠ mi_sA σ 12 b → mi_sA σ 10 (mi_sA σ 12 a) = 3 → ty_lk σ (mi_sA σ 12 a) (mi_sA σ 12 b)) (l2 : mi_sA σ 12 a ≠ mi_sA σ 12 b → mi_sA σ 10 (mi_sA σ 12 b) = 3 → ty_lk σ (mi_sA σ 12 b) (mi_sA σ 12 a)) (l3 : mi_sA σ 12 a ≠ mi_sA σ 12 b → mi_sA σ 10 (mi_sA σ 12 a) ≠ 3 → mi_sA σ 10 (mi_sA σ 12 a) ≠ 4 → mi_sA σ 10 (mi_sA σ 12 a) = mi_sA σ 10 (mi_sA σ 12 b) → ty_lk σ (max (mi_sA σ 12 a) (mi_sA σ 12 b)) (min (mi_sA σ 12 a) (mi_sA σ 12 b))) : ty_Ci X (d + 1) mi_M133 [(0, .ref 9), (1, .int (Int32.ofInt a)), (2, .int (Int32.ofInt b)), (3, .int (Int32.ofInt w))] σ (fun x σ' => jn_P σ (mi_sA σ 12 a) (mi_sA σ 12 b) w x σ') := by
  intro h S
  have fr := mi_Fm_rf h
  have hu := ty_H_u S
  have za := ty_H_z S a0 a1
  have zb := ty_H_z S b0 b1
  refine mi_wp_p (pc' := 1) (st' := [.ref 9]) rfl rfl rfl ?_
  refine mi_wp_p (pc' := 2) (st' := [.int (Int32.ofInt a), .ref 9]) rfl rfl rfl ?_
  refine ty_s_ci rfl rfl rfl rfl rfl rfl (mi_cal_v2 (np := 1) (args := [.ref 9, .int (Int32.ofInt a)]) (rest := []) rfl rfl rfl rfl rfl (Nat.le_of_ble_eq_true rfl) rfl rfl (Nat.le_of_ble_eq_true rfl) (ty_rcS S (List.mem_of_getElem? (i := 5) rfl))) (Nat.le_of_ble_eq_true rfl) S (ty_find2 a0 a1) ?_
  intro x hh σu S f P
  obtain ⟨e1, e2⟩ := P
  rw [e2] at S
  rw [e1]
  clear e1 e2
  replace fr := mi_Fm_tr fr f
  refine mi_wp_p (pc' := 7) (l' := [(4, .int (Int32.ofInt (mi_sA σ 12 a))), (0, .ref 9), (1, .int (Int32.ofInt a)), (2, .int (Int32.ofInt b)), (3, .int (Int32.ofInt w))]) (st' := []) rfl rfl rfl ?_
  refine mi_wp_p (pc' := 8) (st' := [.ref 9]) rfl rfl rfl ?_
  refine mi_wp_p (pc' := 9) (st' := [.int (Int32.ofInt b), .ref 9]) rfl rfl rfl ?_
  refine ty_s_ci rfl rfl rfl rfl rfl rfl (mi_cal_v2 (np := 1) (args := [.ref 9, .int (Int32.ofInt b)]) (rest := []) rfl rfl rfl rfl rfl (Nat.le_of_ble_eq_true rfl) rfl rfl (Nat.le_of_ble_eq_true rfl) (ty_rcS S (List.mem_of_getElem? (i := 5) rfl))) (Nat.le_of_ble_eq_true rfl) S (ty_find2 b0 b1) ?_
  intro x hh σu S f P
  obtain ⟨e1, e2⟩ := P
  rw [e2] at S
  rw [e1]
  clear e1 e2
  replace fr := mi_Fm_tr fr f
  refine mi_wp_p (pc' := 14) (l' := [(5, .int (Int32.ofInt (mi_sA σ 12 b))), (4, .int (Int32.ofInt (mi_sA σ 12 a))), (0, .ref 9), (1, .int (Int32.ofInt a)), (2, .int (Int32.ofInt b)), (3, .int (Int32.ofInt w))]) (st' := []) rfl rfl rfl ?_
  refine mi_wp_p (pc' := 16) (st' := [.int (Int32.ofInt (mi_sA σ 12 a))]) rfl rfl rfl ?_
  refine mi_wp_p (pc' := 18) (st' := [.int (Int32.ofInt (mi_sA σ 12 b)), .int (Int32.ofInt (mi_sA σ 12 a))]) rfl rfl rfl ?_
  refine mi_s_if2 (t := 23) rfl rfl rfl (by unfold mi_R; omega) (by unfold mi_R; omega) ?_ ?_
  · intro (c1 : (mi_sA σ 12 a) ≠ (mi_sA σ 12 b))
    refine mi_wp_p (pc' := 24) (st' := [.ref 9]) rfl rfl rfl ?_
    refine ty_s_gr S rfl rfl rfl (List.mem_of_getElem? (i := 16) rfl) ?_
    refine mi_wp_p (pc' := 29) (st' := [.int (Int32.ofInt (mi_sA σ 12 a)), .ref 10]) rfl rfl rfl ?_
    refine ty_s_ald (x := mi_sA σ 10 (mi_sA σ 12 a)) S rfl rfl (List.mem_of_getElem? (i := 4) rfl) (by decide) (by omega) (by omega) rfl ?_
    refine mi_wp_p (pc' := 31) (st' := [.int (Int32.ofInt 3), .int (Int32.ofInt (mi_sA σ 10 (mi_sA σ 12 a)))]) rfl rfl rfl ?_
    refine mi_s_if2 (t := 45) rfl rfl rfl (by unfold mi_R; omega) (by unfold mi_R; omega) ?_ ?_
    · intro (c2 : (mi_sA σ 10 (mi_sA σ 12 a)) ≠ 3)
      refine mi_wp_p (pc' := 46) (st' := [.ref 9]) rfl rfl rfl ?_
      refine ty_s_gr S rfl rfl rfl (List.mem_of_getElem? (i := 16) rfl) ?_
      refine mi_wp_p (pc' := 51) (st' := [.int (Int32.ofInt (mi_sA σ 12 b)), .ref 10]) rfl rfl rfl ?_
      refine ty_s_ald (x := mi_sA σ 10 (mi_sA σ 12 b)) S rfl rfl (List.mem_of_getElem? (i := 4) rfl) (by decide) (by omega) (by omega) rfl ?_
      refine mi_wp_p (pc' := 53) (st' := [.int (Int32.ofInt 3), .int (Int32.ofInt (mi_sA σ 10 (mi_sA σ 12 b)))]) rfl rfl rfl ?_
      refine mi_s_if2 (t := 67) rfl rfl rfl (by unfold mi_R; omega) (by unfold mi_R; omega) ?_ ?_
      · intro (c3 : (mi_sA σ 10 (mi_sA σ 12 b)) ≠ 3)
        refine mi_wp_p (pc' := 68) (st' := [.ref 9]) rfl rfl rfl ?_
        refine ty_s_gr S rfl rfl rfl (List.mem_of_getElem? (i := 16) rfl) ?_
        refine mi_wp_p (pc' := 73) (st' := [.int (Int32.ofInt (mi_sA σ 12 a)), .ref 10]) rfl rfl rfl ?_
        refine ty_s_ald (x := mi_sA σ 10 (mi_sA σ 12 a)) S rfl rfl (List.mem_of_getElem? (i := 4) rfl) (by decide) (by omega) (by omega) rfl ?_
        refine mi_wp_p (pc' := 75) (st' := [.ref 9, .int (Int32.ofInt (mi_sA σ 10 (mi_sA σ 12 a)))]) rfl rfl rfl ?_
        refine ty_s_gr S rfl rfl rfl (List.mem_of_getElem? (i := 16) rfl) ?_
        refine mi_wp_p (pc' := 80) (st' := [.int (Int32.ofInt (mi_sA σ 12 b)), .ref 10, .int (Int32.ofInt (mi_sA σ 10 (mi_sA σ 12 a)))]) rfl rfl rfl ?_
        refine ty_s_ald (x := mi_sA σ 10 (mi_sA σ 12 b)) S rfl rfl (List.mem_of_getElem? (i := 4) rfl) (by decide) (by omega) (by omega) rfl ?_
        refine mi_s_if2 (t := 103) rfl rfl rfl (by unfold mi_R; omega) (by unfold mi_R; omega) ?_ ?_
        · intro (c4 : (mi_sA σ 10 (mi_sA σ 12 a)) ≠ (mi_sA σ 10 (mi_sA σ 12 b)))
          refine mi_wp_p (pc' := 104) (st' := [.int (Int32.ofInt (-1))]) rfl rfl rfl ?_
          exact ty_s_ret S fr rfl rfl rfl (mi_ret_i rfl) ⟨_, rfl, Or.inr (Or.inr (Or.inr (Or.inl ⟨by omega, rfl, rfl, by omega, by omega, by omega⟩)))⟩
        · intro (c4 : ¬ ((mi_sA σ 10 (mi_sA σ 12 a)) ≠ (mi_sA σ 10 (mi_sA σ 12 b))))
          refine mi_wp_p (pc' := 85) (st' := [.ref 9]) rfl rfl rfl ?_
          refine ty_s_gr S rfl rfl rfl (List.mem_of_getElem? (i := 16) rfl) ?_
          refine mi_wp_p (pc' := 90) (st' := [.int (Int32.ofInt (mi_sA σ 12 a)), .ref 10]) rfl rfl rfl ?_
          refine ty_s_ald (x := mi_sA σ 10 (mi_sA σ 12 a)) S rfl rfl (List.mem_of_getElem? (i := 4) rfl) (by decide) (by omega) (by omega) rfl ?_
          refine mi_wp_p (pc' := 92) (st' := [.int (Int32.ofInt 4), .int (Int32.ofInt (mi_sA σ 10 (mi_sA σ 12 a)))]) rfl rfl rfl ?_
          refine mi_s_if2 (t := 103) rfl rfl rfl (by unfold mi_R; omega) (by unfold mi_R; omega) ?_ ?_
          · intro (c5 : (mi_sA σ 10 (mi_sA σ 12 a)) = 4)
            refine mi_wp_p (pc' := 104) (st' := [.int (Int32.ofInt (-1))]) rfl rfl rfl ?_
            exact ty_s_ret S fr rfl rfl rfl (mi_ret_i rfl) ⟨_, rfl, Or.inr (Or.inr (Or.inr (Or.inl ⟨by omega, rfl, rfl, by omega, by omega, by omega⟩)))⟩
          · intro (c5 : ¬ ((mi_sA σ 10 (mi_sA σ 12 a)) = 4))
            refine mi_wp_p (pc' := 96) (st' := [.int (Int32.ofInt w)]) rfl rfl rfl ?_
            refine mi_wp_p (pc' := 97) (st' := [.ref 9, .int (Int32.ofInt w)]) rfl rfl rfl ?_
            refine ty_s_gf (x := mi_sF σ 9 7) S rfl rfl rfl (List.mem_of_getElem? (i := 5) rfl) rfl ?_
            refine mi_s_if2 (t := 105) rfl rfl rfl (by unfold mi_R; omega) (by unfold mi_R; omega) (fun _ => ?_) (fun hc_ => absurd (show w < (mi_sF σ 9 7) by omega) hc_)
            refine mi_wp_p (pc' := 107) (st' := [.int (Int32.ofInt (mi_sA σ 12 a))]) rfl rfl rfl ?_
            refine mi_wp_p (pc' := 109) (st' := [.int (Int32.ofInt (mi_sA σ 12 b)), .int (Int32.ofInt (mi_sA σ 12 a))]) rfl rfl rfl ?_
            refine mi_s_mx rfl rfl rfl (Nat.le_of_ble_eq_true rfl) (by unfold mi_R; omega) (by unfold mi_R; omega) ?_
            refine mi_wp_p (pc' := 114) (l' := [(6, .int (Int32.ofInt (max (mi_sA σ 12 a) (mi_sA σ 12 b)))), (5, .int (Int32.ofInt (mi_sA σ 12 b))), (4, .int (Int32.ofInt (mi_sA σ 12 a))), (0, .ref 9), (1, .int (Int32.ofInt a)), (2, .int (Int32.ofInt b)), (3, .int (Int32.ofInt w))]) (st' := []) rfl rfl rfl ?_
            refine mi_wp_p (pc' := 115) (st' := [.ref 9]) rfl rfl rfl ?_
            refine ty_s_gr S rfl rfl rfl (List.mem_of_getElem? (i := 18) rfl) ?_
            refine mi_wp_p (pc' := 120) (st' := [.int (Int32.ofInt (max (mi_sA σ 12 a) (mi_sA σ 12 b))), .ref 12]) rfl rfl rfl ?_
            refine mi_wp_p (pc' := 122) (st' := [.int (Int32.ofInt (mi_sA σ 12 a)), .int (Int32.ofInt (max (mi_sA σ 12 a) (mi_sA σ 12 b))), .ref 12]) rfl rfl rfl ?_
            refine mi_wp_p (pc' := 124) (st' := [.int (Int32.ofInt (mi_sA σ 12 b)), .int (Int32.ofInt (mi_sA σ 12 a)), .int (Int32.ofInt (max (mi_sA σ 12 a) (mi_sA σ 12 b))), .ref 12]) rfl rfl rfl ?_
            refine mi_s_mn rfl rfl rfl (Nat.le_of_ble_eq_true rfl) (by unfold mi_R; omega) (by unfold mi_R; omega) ?_
            refine ty_s_ast12 S rfl rfl (List.mem_of_getElem? (i := 6) rfl) (l3 (by omega) (by omega) (by omega) (by omega)) ?_
            intro h6 S f
            replace fr := mi_Fm_tr fr f
            refine mi_wp_p (pc' := 129) (st' := [.ref 9]) rfl rfl rfl ?_
            refine ty_s_gr S rfl rfl rfl (List.mem_of_getElem? (i := 21) rfl) ?_
            refine mi_wp_p (pc' := 133) (st' := [.int (Int32.ofInt w), .ref 15]) rfl rfl rfl ?_
            refine mi_wp_p (pc' := 135) (st' := [.int (Int32.ofInt (max (mi_sA σ 12 a) (mi_sA σ 12 b))), .int (Int32.ofInt w), .ref 15]) rfl rfl rfl ?_
            refine ty_s_ast S rfl rfl (List.mem_of_getElem? (i := 9) rfl) (by decide) (by decide) (by omega) (by omega) ?_
            intro h7 S f
            replace fr := mi_Fm_tr fr f
            refine mi_wp_p (pc' := 137) (st' := [.int (Int32.ofInt w)]) rfl rfl rfl ?_
            refine mi_wp_p (pc' := 138) (st' := [.int (Int32.ofInt 1), .int (Int32.ofInt w)]) rfl rfl rfl ?_
            refine mi_s_add rfl rfl ?_
            exact ty_s_ret S fr rfl rfl rfl (mi_ret_i rfl) ⟨_, rfl, Or.inr (Or.inr (Or.inr (Or.inr ⟨by omega, rfl, by omega, by omega, by omega, rfl⟩)))⟩
      · intro (c3 : ¬ ((mi_sA σ 10 (mi_sA σ 12 b)) ≠ 3))
        refine mi_wp_p (pc' := 57) (st' := [.ref 9]) rfl rfl rfl ?_
        refine ty_s_gr S rfl rfl rfl (List.mem_of_getElem? (i := 18) rfl) ?_
        refine mi_wp_p (pc' := 62) (st' := [.int (Int32.ofInt (mi_sA σ 12 b)), .ref 12]) rfl rfl rfl ?_
        refine mi_wp_p (pc' := 64) (st' := [.int (Int32.ofInt (mi_sA σ 12 a)), .int (Int32.ofInt (mi_sA σ 12 b)), .ref 12]) rfl rfl rfl ?_
        refine ty_s_ast12 S rfl rfl (List.mem_of_getElem? (i := 6) rfl) (l2 (by omega) (by omega)) ?_
        intro h8 S f
        replace fr := mi_Fm_tr fr f
        refine mi_wp_p (pc' := 66) (st' := [.int (Int32.ofInt w)]) rfl rfl rfl ?_
        exact ty_s_ret S fr rfl rfl rfl (mi_ret_i rfl) ⟨_, rfl, Or.inr (Or.inr (Or.inl ⟨by omega, rfl, by omega, by omega, rfl⟩))⟩
    · intro (c2 : ¬ ((mi_sA σ 10 (mi_sA σ 12 a)) ≠ 3))
      refine mi_wp_p (pc' := 35) (st' := [.ref 9]) rfl rfl rfl ?_
      refine ty_s_gr S rfl rfl rfl (List.mem_of_getElem? (i := 18) rfl) ?_
      refine mi_wp_p (pc' := 40) (st' := [.int (Int32.ofInt (mi_sA σ 12 a)), .ref 12]) rfl rfl rfl ?_
      refine mi_wp_p (pc' := 42) (st' := [.int (Int32.ofInt (mi_sA σ 12 b)), .int (Int32.ofInt (mi_sA σ 12 a)), .ref 12]) rfl rfl rfl ?_
      refine ty_s_ast12 S rfl rfl (List.mem_of_getElem? (i := 6) rfl) (l1 (by omega) (by omega)) ?_
      intro h9 S f
      replace fr := mi_Fm_tr fr f
      refine mi_wp_p (pc' := 44) (st' := [.int (Int32.ofInt w)]) rfl rfl rfl ?_
      exact ty_s_ret S fr rfl rfl rfl (mi_ret_i rfl) ⟨_, rfl, Or.inr (Or.inl ⟨by omega, rfl, by omega, rfl⟩)⟩
  · intro (c1 : ¬ ((mi_sA σ 12 a) ≠ (mi_sA σ 12 b)))
    refine mi_wp_p (pc' := 22) (st' := [.int (Int32.ofInt w)]) rfl rfl rfl ?_
    exact ty_s_ret S fr rfl rfl rfl (mi_ret_i rfl) ⟨_, rfl, Or.inl ⟨rfl, rfl, by omega⟩⟩
