/-! ===== append, feed (printed by wip/gen/p_feed.py) ===== -/
section ST
variable {X : mi_X} {d : Nat} {M : mi_M} {pc c s : Nat} {l : mi_L} {r st : List Value} {h : mi_H} {Q : mi_Z → Prop} {a e : Int}
theorem mi_s_shr {k : Nat} (ht : mi_lk (mi_th M) pc = none) (hi : mi_lk (mi_cd M) pc = some (.ishr, 1)) (hk : k < 32) (hk2 : ((Int32.ofInt (k : Int)) &&& 31).toBitVec.smod 32 = BitVec.ofNat 32 k) (h0 : 0 ≤ a) (h1 : a < 2147483648) (kk : mi_wp X d M (pc + 1) l (.int (Int32.ofInt (a / ((2 ^ k : Nat) : Int))) :: r) h c s Q) : mi_wp X d M pc l (.int (Int32.ofInt (k : Int)) :: .int (Int32.ofInt a) :: r) h c s Q := by
  refine mi_wp_p (pc' := pc + 1) (l' := l) (st' := .int (Int32.ofInt a >>> (Int32.ofInt (k : Int) &&& 31)) :: r) ht hi rfl ?_
  rw [i32_sh k hk hk2 h0 h1]
  exact kk
theorem mi_s_i2bg (ht : mi_lk (mi_th M) pc = none) (hi : mi_lk (mi_cd M) pc = some (.i2b, 1)) (h0 : 0 ≤ a) (h1 : a < 2147483648) (h2 : a % 256 = e) (h3 : e < 128) (kk : mi_wp X d M (pc + 1) l (.int (Int32.ofInt e) :: r) h c s Q) : mi_wp X d M pc l (.int (Int32.ofInt a) :: r) h c s Q := by
  refine mi_wp_p (pc' := pc + 1) (l' := l) (st' := .int (Int32.ofInt a).toInt8.toInt32 :: r) ht hi rfl ?_
  rw [i32_b h0 h1 (by omega), h2]
  exact kk
end ST
/-- a byte more on the tape -/
def tap (σ : mi_Sg) (b : Int) : mi_Sg := mi_uF (mi_uA σ 1 (mi_sF σ 0 10) b) 0 10 (mi_sF σ 0 10 + 1)
theorem tl_append {X : mi_X} {d : Nat} {σ : mi_Sg} {w c0 c1 c2 c3 : Int} (b0 : 0 ≤ c0) (b0b : c0 < 128) (b1 : 0 ≤ c1) (b1b : c1 < 128) (b2 : 0 ≤ c2) (b2b : c2 < 128) (b3 : 0 ≤ c3) (b3b : c3 < 128) (hw : w = ((c0 * 256 + c1) * 256 + c2) * 256 + c3) (s0 : 0 ≤ mi_sF σ 0 10) (s1 : mi_sF σ 0 10 + 4 ≤ 1200) : ty_Cv X d mi_M2 [(0, .ref 0), (1, .int (Int32.ofInt w))] σ (fun σ' => σ' = tap (tap (tap (tap σ c0) c1) c2) c3) := by
  intro h S
  have fr := mi_Fm_rf h
  have w0_ : 0 ≤ w := by omega
  have w1_ : w < 2147483648 := by omega
  refine mi_s_k (pc' := 2) (e := 24) rfl rfl rfl (by decide +kernel) ?_
  refine mi_wp_p (pc' := 3) (l' := [(2, .int (Int32.ofInt 24)), (0, .ref 0), (1, .int (Int32.ofInt w))]) (st' := []) rfl rfl rfl ?_
  refine mi_wp_p (pc' := 4) (st' := [.int (Int32.ofInt 24)]) rfl rfl rfl ?_
  refine mi_s_if1 (t := 46) rfl rfl rfl (by unfold mi_R; omega) (fun hc_ => absurd (show (24 : Int) < 0 from hc_) (by omega)) (fun _ => ?_)
  refine mi_wp_p (pc' := 8) (st' := [.ref 0]) rfl rfl rfl ?_
  refine ty_s_gf (x := mi_sF σ 0 10) S rfl rfl rfl (List.mem_of_getElem? (i := 0) rfl) rfl ?_
  refine mi_s_k (pc' := 14) (e := 1200) rfl rfl rfl (by decide +kernel) ?_
  refine mi_s_if2 (t := 40) rfl rfl rfl (by unfold mi_R; omega) (by unfold mi_R; omega) (fun hc_ => absurd (show 1200 ≤ (mi_sF σ 0 10) from hc_) (by omega)) (fun _ => ?_)
  refine mi_wp_p (pc' := 18) (st' := [.ref 0]) rfl rfl rfl ?_
  refine ty_s_gr S rfl rfl rfl (List.mem_of_getElem? (i := 0) rfl) ?_
  refine mi_wp_p (pc' := 22) (st' := [.ref 0, .ref 1]) rfl rfl rfl ?_
  refine ty_s_gf (x := mi_sF σ 0 10) S rfl rfl rfl (List.mem_of_getElem? (i := 0) rfl) rfl ?_
  refine mi_wp_p (pc' := 26) (st' := [.int (Int32.ofInt w), .int (Int32.ofInt (mi_sF σ 0 10)), .ref 1]) rfl rfl rfl ?_
  refine mi_wp_p (pc' := 27) (st' := [.int (Int32.ofInt 24), .int (Int32.ofInt w), .int (Int32.ofInt (mi_sF σ 0 10)), .ref 1]) rfl rfl rfl ?_
  refine mi_s_shr (k := 24) rfl rfl (by decide) (by decide +kernel) w0_ w1_ ?_
  refine mi_s_i2bg rfl rfl (e := c0) (by omega) (by omega) (by omega) (by omega) ?_
  refine ty_s_bst S rfl rfl (List.mem_of_getElem? (i := 0) rfl) (by decide) (by decide) (by omega) (by omega) (by omega) ?_
  intro h1 S f
  replace fr := mi_Fm_tr fr f
  refine mi_wp_p (pc' := 31) (st' := [.ref 0]) rfl rfl rfl ?_
  refine mi_wp_p (pc' := 32) (st' := [.ref 0, .ref 0]) rfl rfl rfl ?_
  refine ty_s_gf (x := mi_sF σ 0 10) S rfl rfl rfl (List.mem_of_getElem? (i := 0) rfl) rfl ?_
  refine mi_wp_p (pc' := 36) (st' := [.int (Int32.ofInt 1), .int (Int32.ofInt (mi_sF σ 0 10)), .ref 0]) rfl rfl rfl ?_
  refine mi_s_add rfl rfl ?_
  refine ty_s_pf S rfl rfl rfl (List.mem_of_getElem? (i := 0) rfl) (by decide) mi_fit_int (Or.inl rfl) ?_
  intro h2 S f
  replace fr := mi_Fm_tr fr f
  refine mi_s_inc (l' := [(2, .int (Int32.ofInt 16)), (0, .ref 0), (1, .int (Int32.ofInt w))]) rfl rfl rfl (by decide) rfl ?_
  refine mi_wp_p (pc' := 3) rfl rfl rfl ?_
  refine mi_wp_p (pc' := 4) (st' := [.int (Int32.ofInt 16)]) rfl rfl rfl ?_
  refine mi_s_if1 (t := 46) rfl rfl rfl (by unfold mi_R; omega) (fun hc_ => absurd (show (16 : Int) < 0 from hc_) (by omega)) (fun _ => ?_)
  refine mi_wp_p (pc' := 8) (st' := [.ref 0]) rfl rfl rfl ?_
  refine ty_s_gf (x := (mi_sF σ 0 10) + 1) S rfl rfl rfl (List.mem_of_getElem? (i := 0) rfl) rfl ?_
  refine mi_s_k (pc' := 14) (e := 1200) rfl rfl rfl (by decide +kernel) ?_
  refine mi_s_if2 (t := 40) rfl rfl rfl (by unfold mi_R; omega) (by unfold mi_R; omega) (fun hc_ => absurd (show 1200 ≤ ((mi_sF σ 0 10) + 1) from hc_) (by omega)) (fun _ => ?_)
  refine mi_wp_p (pc' := 18) (st' := [.ref 0]) rfl rfl rfl ?_
  refine ty_s_gr S rfl rfl rfl (List.mem_of_getElem? (i := 0) rfl) ?_
  refine mi_wp_p (pc' := 22) (st' := [.ref 0, .ref 1]) rfl rfl rfl ?_
  refine ty_s_gf (x := (mi_sF σ 0 10) + 1) S rfl rfl rfl (List.mem_of_getElem? (i := 0) rfl) rfl ?_
  refine mi_wp_p (pc' := 26) (st' := [.int (Int32.ofInt w), .int (Int32.ofInt ((mi_sF σ 0 10) + 1)), .ref 1]) rfl rfl rfl ?_
  refine mi_wp_p (pc' := 27) (st' := [.int (Int32.ofInt 16), .int (Int32.ofInt w), .int (Int32.ofInt ((mi_sF σ 0 10) + 1)), .ref 1]) rfl rfl rfl ?_
  refine mi_s_shr (k := 16) rfl rfl (by decide) (by decide +kernel) w0_ w1_ ?_
  refine mi_s_i2bg rfl rfl (e := c1) (by omega) (by omega) (by omega) (by omega) ?_
  refine ty_s_bst S rfl rfl (List.mem_of_getElem? (i := 0) rfl) (by decide) (by decide) (by omega) (by omega) (by omega) ?_
  intro h3 S f
  replace fr := mi_Fm_tr fr f
  refine mi_wp_p (pc' := 31) (st' := [.ref 0]) rfl rfl rfl ?_
  refine mi_wp_p (pc' := 32) (st' := [.ref 0, .ref 0]) rfl rfl rfl ?_
  refine ty_s_gf (x := (mi_sF σ 0 10) + 1) S rfl rfl rfl (List.mem_of_getElem? (i := 0) rfl) rfl ?_
  refine mi_wp_p (pc' := 36) (st' := [.int (Int32.ofInt 1), .int (Int32.ofInt ((mi_sF σ 0 10) + 1)), .ref 0]) rfl rfl rfl ?_
  refine mi_s_add rfl rfl ?_
  refine ty_s_pf S rfl rfl rfl (List.mem_of_getElem? (i := 0) rfl) (by decide) mi_fit_int (Or.inl rfl) ?_
  intro h4 S f
  replace fr := mi_Fm_tr fr f
  refine mi_s_inc (l' := [(2, .int (Int32.ofInt 8)), (0, .ref 0), (1, .int (Int32.ofInt w))]) rfl rfl rfl (by decide) rfl ?_
  refine mi_wp_p (pc' := 3) rfl rfl rfl ?_
  refine mi_wp_p (pc' := 4) (st' := [.int (Int32.ofInt 8)]) rfl rfl rfl ?_
  refine mi_s_if1 (t := 46) rfl rfl rfl (by unfold mi_R; omega) (fun hc_ => absurd (show (8 : Int) < 0 from hc_) (by omega)) (fun _ => ?_)
  refine mi_wp_p (pc' := 8) (st' := [.ref 0]) rfl rfl rfl ?_
  refine ty_s_gf (x := ((mi_sF σ 0 10) + 1) + 1) S rfl rfl rfl (List.mem_of_getElem? (i := 0) rfl) rfl ?_
  refine mi_s_k (pc' := 14) (e := 1200) rfl rfl rfl (by decide +kernel) ?_
  refine mi_s_if2 (t := 40) rfl rfl rfl (by unfold mi_R; omega) (by unfold mi_R; omega) (fun hc_ => absurd (show 1200 ≤ (((mi_sF σ 0 10) + 1) + 1) from hc_) (by omega)) (fun _ => ?_)
  refine mi_wp_p (pc' := 18) (st' := [.ref 0]) rfl rfl rfl ?_
  refine ty_s_gr S rfl rfl rfl (List.mem_of_getElem? (i := 0) rfl) ?_
  refine mi_wp_p (pc' := 22) (st' := [.ref 0, .ref 1]) rfl rfl rfl ?_
  refine ty_s_gf (x := ((mi_sF σ 0 10) + 1) + 1) S rfl rfl rfl (List.mem_of_getElem? (i := 0) rfl) rfl ?_
  refine mi_wp_p (pc' := 26) (st' := [.int (Int32.ofInt w), .int (Int32.ofInt (((mi_sF σ 0 10) + 1) + 1)), .ref 1]) rfl rfl rfl ?_
  refine mi_wp_p (pc' := 27) (st' := [.int (Int32.ofInt 8), .int (Int32.ofInt w), .int (Int32.ofInt (((mi_sF σ 0 10) + 1) + 1)), .ref 1]) rfl rfl rfl ?_
  refine mi_s_shr (k := 8) rfl rfl (by decide) (by decide +kernel) w0_ w1_ ?_
  refine mi_s_i2bg rfl rfl (e := c2) (by omega) (by omega) (by omega) (by omega) ?_
  refine ty_s_bst S rfl rfl (List.mem_of_getElem? (i := 0) rfl) (by decide) (by decide) (by omega) (by omega) (by omega) ?_
  intro h5 S f
  replace fr := mi_Fm_tr fr f
  refine mi_wp_p (pc' := 31) (st' := [.ref 0]) rfl rfl rfl ?_
  refine mi_wp_p (pc' := 32) (st' := [.ref 0, .ref 0]) rfl rfl rfl ?_
  refine ty_s_gf (x := ((mi_sF σ 0 10) + 1) + 1) S rfl rfl rfl (List.mem_of_getElem? (i := 0) rfl) rfl ?_
  refine mi_wp_p (pc' := 36) (st' := [.int (Int32.ofInt 1), .int (Int32.ofInt (((mi_sF σ 0 10) + 1) + 1)), .ref 0]) rfl rfl rfl ?_
  refine mi_s_add rfl rfl ?_
  refine ty_s_pf S rfl rfl rfl (List.mem_of_getElem? (i := 0) rfl) (by decide) mi_fit_int (Or.inl rfl) ?_
  intro h6 S f
  replace fr := mi_Fm_tr fr f
  refine mi_s_inc (l' := [(2, .int (Int32.ofInt 0)), (0, .ref 0), (1, .int (Int32.ofInt w))]) rfl rfl rfl (by decide) rfl ?_
  refine mi_wp_p (pc' := 3) rfl rfl rfl ?_
  refine mi_wp_p (pc' := 4) (st' := [.int (Int32.ofInt 0)]) rfl rfl rfl ?_
  refine mi_s_if1 (t := 46) rfl rfl rfl (by unfold mi_R; omega) (fun hc_ => absurd (show (0 : Int) < 0 from hc_) (by omega)) (fun _ => ?_)
  refine mi_wp_p (pc' := 8) (st' := [.ref 0]) rfl rfl rfl ?_
  refine ty_s_gf (x := (((mi_sF σ 0 10) + 1) + 1) + 1) S rfl rfl rfl (List.mem_of_getElem? (i := 0) rfl) rfl ?_
  refine mi_s_k (pc' := 14) (e := 1200) rfl rfl rfl (by decide +kernel) ?_
  refine mi_s_if2 (t := 40) rfl rfl rfl (by unfold mi_R; omega) (by unfold mi_R; omega) (fun hc_ => absurd (show 1200 ≤ ((((mi_sF σ 0 10) + 1) + 1) + 1) from hc_) (by omega)) (fun _ => ?_)
  refine mi_wp_p (pc' := 18) (st' := [.ref 0]) rfl rfl rfl ?_
  refine ty_s_gr S rfl rfl rfl (List.mem_of_getElem? (i := 0) rfl) ?_
  refine mi_wp_p (pc' := 22) (st' := [.ref 0, .ref 1]) rfl rfl rfl ?_
  refine ty_s_gf (x := (((mi_sF σ 0 10) + 1) + 1) + 1) S rfl rfl rfl (List.mem_of_getElem? (i := 0) rfl) rfl ?_
  refine mi_wp_p (pc' := 26) (st' := [.int (Int32.ofInt w), .int (Int32.ofInt ((((mi_sF σ 0 10) + 1) + 1) + 1)), .ref 1]) rfl rfl rfl ?_
  refine mi_wp_p (pc' := 27) (st' := [.int (Int32.ofInt 0), .int (Int32.ofInt w), .int (Int32.ofInt ((((mi_sF σ 0 10) + 1) + 1) + 1)), .ref 1]) rfl rfl rfl ?_
  refine mi_s_shr (k := 0) rfl rfl (by decide) (by decide +kernel) w0_ w1_ ?_
  refine mi_s_i2bg rfl rfl (e := c3) (by omega) (by omega) (by omega) (by omega) ?_
  refine ty_s_bst S rfl rfl (List.mem_of_getElem? (i := 0) rfl) (by decide) (by decide) (by omega) (by omega) (by omega) ?_
  intro h7 S f
  replace fr := mi_Fm_tr fr f
  refine mi_wp_p (pc' := 31) (st' := [.ref 0]) rfl rfl rfl ?_
  refine mi_wp_p (pc' := 32) (st' := [.ref 0, .ref 0]) rfl rfl rfl ?_
  refine ty_s_gf (x := (((mi_sF σ 0 10) + 1) + 1) + 1) S rfl rfl rfl (List.mem_of_getElem? (i := 0) rfl) rfl ?_
  refine mi_wp_p (pc' := 36) (st' := [.int (Int32.ofInt 1), .int (Int32.ofInt ((((mi_sF σ 0 10) + 1) + 1) + 1)), .ref 0]) rfl rfl rfl ?_
  refine mi_s_add rfl rfl ?_
  refine ty_s_pf S rfl rfl rfl (List.mem_of_getElem? (i := 0) rfl) (by decide) mi_fit_int (Or.inl rfl) ?_
  intro h8 S f
  replace fr := mi_Fm_tr fr f
  refine mi_s_inc (l' := [(2, .int (Int32.ofInt (-8))), (0, .ref 0), (1, .int (Int32.ofInt w))]) rfl rfl rfl (by decide) rfl ?_
  refine mi_wp_p (pc' := 3) rfl rfl rfl ?_
  refine mi_wp_p (pc' := 4) (st' := [.int (Int32.ofInt (-8))]) rfl rfl rfl ?_
  refine mi_s_if1 (t := 46) rfl rfl rfl (by unfold mi_R; omega) (fun _ => ?_) (fun hc_ => absurd (show ((-8) : Int) < 0 by omega) hc_)
  exact ty_s_ret S fr rfl rfl rfl rfl ⟨rfl, rfl⟩
theorem tl_feed {X : mi_X} {σ : mi_Sg} {d : Nat} {w0 w1 w2 w3 w4 : Int} {f0 f1 f2 f3 f4 : mi_Sg → mi_Sg} (q0 : ∀ σ', 0 ≤ mi_sF σ' 0 10 → mi_sF σ' 0 10 + 4 ≤ 1200 → ty_Cv X d mi_M2 [(0, .ref 0), (1, .int (Int32.ofInt w0))] σ' (fun σ2 => σ2 = f0 σ')) (g0 : ∀ σ', mi_sF (f0 σ') 0 10 = mi_sF σ' 0 10 + 4) (q1 : ∀ σ', 0 ≤ mi_sF σ' 0 10 → mi_sF σ' 0 10 + 4 ≤ 1200 → ty_Cv X d mi_M2 [(0, .ref 0), (1, .int (Int32.ofInt w1))] σ' (fun σ2 => σ2 = f1 σ')) (g1 : ∀ σ', mi_sF (f1 σ') 0 10 = mi_sF σ' 0 10 + 4) (q2 : ∀ σ', 0 ≤ mi_sF σ' 0 10 → mi_sF σ' 0 10 + 4 ≤ 1200 → ty_Cv X d mi_M2 [(0, .ref 0), (1, .int (Int32.ofInt w2))] σ' (fun σ2 => σ2 = f2 σ')) (g2 : ∀ σ', mi_sF (f2 σ') 0 10 = mi_sF σ' 0 10 + 4) (q3 : ∀ σ', 0 ≤ mi_sF σ' 0 10 → mi_sF σ' 0 10 + 4 ≤ 1200 → ty_Cv X d mi_M2 [(0, .ref 0), (1, .int (Int32.ofInt w3))] σ' (fun σ2 => σ2 = f3 σ')) (g3 : ∀ σ', mi_sF (f3 σ') 0 10 = mi_sF σ' 0 10 + 4) (q4 : ∀ σ', 0 ≤ mi_sF σ' 0 10 → mi_sF σ' 0 10 + 4 ≤ 1200 → ty_Cv X d mi_M2 [(0, .ref 0), (1, .int (Int32.ofInt w4))] σ' (fun σ2 => σ2 = f4 σ')) (g4 : ∀ σ', mi_sF (f4 σ') 0 10 = mi_sF σ' 0 10 + 4) (s0 : 0 ≤ mi_sF σ 0 10) (s1 : mi_sF σ 0 10 + 20 ≤ 1200) : ty_Ci X (d + 1) mi_M8 [(0, .ref 0), (1, .int (Int32.ofInt w0)), (2, .int (Int32.ofInt w1)), (3, .int (Int32.ofInt w2)), (4, .int (Int32.ofInt w3)), (5, .int (Int32.ofInt w4))] σ (fun x σ' => x = mi_sF σ 0 10 + 20 ∧ σ' = f4 (f3 (f2 (f1 (f0 σ))))) := by
  intro h S
  have fr := mi_Fm_rf h
  refine mi_wp_p (pc' := 1) (st' := [.ref 0]) rfl rfl rfl ?_
  refine ty_s_gf (x := mi_sF σ 0 10) S rfl rfl rfl (List.mem_of_getElem? (i := 0) rfl) rfl ?_
  refine mi_s_k (pc' := 6) (e := 20) rfl rfl rfl (by decide +kernel) ?_
  refine mi_s_add rfl rfl ?_
  refine mi_s_k (pc' := 10) (e := 1200) rfl rfl rfl (by decide +kernel) ?_
  refine mi_s_if2 (t := 23) rfl rfl rfl (by unfold mi_R; omega) (by unfold mi_R; omega) (fun _ => ?_) (fun hc_ => absurd (show ((mi_sF σ 0 10) + 20) ≤ 1200 by omega) hc_)
  refine mi_wp_p (pc' := 24) (st' := [.ref 0]) rfl rfl rfl ?_
  refine mi_wp_p (pc' := 25) (st' := [.int (Int32.ofInt w0), .ref 0]) rfl rfl rfl ?_
  refine ty_s_cv rfl rfl rfl rfl rfl rfl (mi_cal_v2 (np := 1) (args := [.ref 0, .int (Int32.ofInt w0)]) (rest := []) rfl rfl rfl rfl rfl (Nat.le_of_ble_eq_true rfl) rfl rfl (Nat.le_of_ble_eq_true rfl) (ty_rcS S (List.mem_of_getElem? (i := 0) rfl))) (Nat.le_of_ble_eq_true rfl) S (q0 σ s0 (by omega)) ?_
  intro hh σ0_ S f P
  subst P
  replace fr := mi_Fm_tr fr f
  refine mi_wp_p (pc' := 29) (st' := [.ref 0]) rfl rfl rfl ?_
  refine mi_wp_p (pc' := 30) (st' := [.int (Int32.ofInt w1), .ref 0]) rfl rfl rfl ?_
  refine ty_s_cv rfl rfl rfl rfl rfl rfl (mi_cal_v2 (np := 1) (args := [.ref 0, .int (Int32.ofInt w1)]) (rest := []) rfl rfl rfl rfl rfl (Nat.le_of_ble_eq_true rfl) rfl rfl (Nat.le_of_ble_eq_true rfl) (ty_rcS S (List.mem_of_getElem? (i := 0) rfl))) (Nat.le_of_ble_eq_true rfl) S (q1 (f0 σ) (by rw [g0]; omega) (by rw [g0]; omega)) ?_
  intro hh σ1_ S f P
  subst P
  replace fr := mi_Fm_tr fr f
  refine mi_wp_p (pc' := 34) (st' := [.ref 0]) rfl rfl rfl ?_
  refine mi_wp_p (pc' := 35) (st' := [.int (Int32.ofInt w2), .ref 0]) rfl rfl rfl ?_
  refine ty_s_cv rfl rfl rfl rfl rfl rfl (mi_cal_v2 (np := 1) (args := [.ref 0, .int (Int32.ofInt w2)]) (rest := []) rfl rfl rfl rfl rfl (Nat.le_of_ble_eq_true rfl) rfl rfl (Nat.le_of_ble_eq_true rfl) (ty_rcS S (List.mem_of_getElem? (i := 0) rfl))) (Nat.le_of_ble_eq_true rfl) S (q2 (f1 (f0 σ)) (by rw [g1, g0]; omega) (by rw [g1, g0]; omega)) ?_
  intro hh σ2_ S f P
  subst P
  replace fr := mi_Fm_tr fr f
  refine mi_wp_p (pc' := 39) (st' := [.ref 0]) rfl rfl rfl ?_
  refine mi_wp_p (pc' := 41) (st' := [.int (Int32.ofInt w3), .ref 0]) rfl rfl rfl ?_
  refine ty_s_cv rfl rfl rfl rfl rfl rfl (mi_cal_v2 (np := 1) (args := [.ref 0, .int (Int32.ofInt w3)]) (rest := []) rfl rfl rfl rfl rfl (Nat.le_of_ble_eq_true rfl) rfl rfl (Nat.le_of_ble_eq_true rfl) (ty_rcS S (List.mem_of_getElem? (i := 0) rfl))) (Nat.le_of_ble_eq_true rfl) S (q3 (f2 (f1 (f0 σ))) (by rw [g2, g1, g0]; omega) (by rw [g2, g1, g0]; omega)) ?_
  intro hh σ3_ S f P
  subst P
  replace fr := mi_Fm_tr fr f
  refine mi_wp_p (pc' := 45) (st' := [.ref 0]) rfl rfl rfl ?_
  refine mi_wp_p (pc' := 47) (st' := [.int (Int32.ofInt w4), .ref 0]) rfl rfl rfl ?_
  refine ty_s_cv rfl rfl rfl rfl rfl rfl (mi_cal_v2 (np := 1) (args := [.ref 0, .int (Int32.ofInt w4)]) (rest := []) rfl rfl rfl rfl rfl (Nat.le_of_ble_eq_true rfl) rfl rfl (Nat.le_of_ble_eq_true rfl) (ty_rcS S (List.mem_of_getElem? (i := 0) rfl))) (Nat.le_of_ble_eq_true rfl) S (q4 (f3 (f2 (f1 (f0 σ)))) (by rw [g3, g2, g1, g0]; omega) (by rw [g3, g2, g1, g0]; omega)) ?_
  intro hh σ4_ S f P
  subst P
  replace fr := mi_Fm_tr fr f
  refine mi_wp_p (pc' := 51) (st' := [.ref 0]) rfl rfl rfl ?_
  refine ty_s_gf (x := mi_sF (f4 (f3 (f2 (f1 (f0 σ))))) 0 10) S rfl rfl rfl (List.mem_of_getElem? (i := 0) rfl) rfl ?_
  refine mi_s_top (b := mi_sF σ 0 10 + 20) (by rw [g4, g3, g2, g1, g0]; omega) ?_
  exact ty_s_ret S fr rfl rfl rfl (mi_ret_i rfl) ⟨_, rfl, ⟨rfl, rfl⟩⟩
