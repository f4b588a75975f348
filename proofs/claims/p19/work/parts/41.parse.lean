/-! ===== the parser, steps in 26: what a piece of it adds ===== -/
def sg_26 (σ : mi_Sg) (s : Int) (l : List (Int × Int × Int)) : Prop := ∀ (i : Nat) (q : Int × Int × Int), l[i]? = some q → mi_sA σ 27 (s + i) = q.1 ∧ mi_sA σ 28 (s + i) = q.2.1 ∧ mi_sA σ 29 (s + i) = q.2.2
/-- n tokens on, the steps l more -/
def ps26_Q (σ σ' : mi_Sg) (n : Int) (l : List (Int × Int × Int)) : Prop := sg_Af [27, 28, 29, 30, 31, 32, 33] [(26, 7), (42, 3)] σ σ' ∧ mi_sF σ' 42 3 = mi_sF σ 42 3 + n ∧ mi_sF σ' 26 7 = mi_sF σ 26 7 + l.length ∧ (∀ i, 0 ≤ i → i < mi_sF σ 26 7 → mi_sA σ' 27 i = mi_sA σ 27 i ∧ mi_sA σ' 28 i = mi_sA σ 28 i ∧ mi_sA σ' 29 i = mi_sA σ 29 i) ∧ sg_26 σ' (mi_sF σ 26 7) l
theorem sg_26_app {σ : mi_Sg} {s : Int} {l l' : List (Int × Int × Int)} (a : sg_26 σ s l) (b : sg_26 σ (s + l.length) l') : sg_26 σ s (l ++ l') := fun i q h => by
  by_cases e : i < l.length
  · rw [List.getElem?_append_left e] at h
    exact a i q h
  · rw [List.getElem?_append_right (by omega)] at h
    have := b _ q h
    rw [show s + (l.length : Int) + ((i - l.length : Nat) : Int) = s + (i : Int) by omega] at this
    exact this
theorem ps26_rf {σ : mi_Sg} : ps26_Q σ σ 0 [] := ⟨sg_Af_rf, by omega, by simp, fun _ _ _ => ⟨rfl, rfl, rfl⟩, fun i q h => by simp at h⟩
theorem ps26_tr {σ σ1 σ2 : mi_Sg} {n m : Int} {l l' : List (Int × Int × Int)} (hs : 0 ≤ mi_sF σ 26 7) (a : ps26_Q σ σ1 n l) (b : ps26_Q σ1 σ2 m l') : ps26_Q σ σ2 (n + m) (l ++ l') := by
  obtain ⟨a1, a2, a3, a4, a5⟩ := a
  obtain ⟨b1, b2, b3, b4, b5⟩ := b
  have hl := List.length_append (as := l) (bs := l')
  refine ⟨sg_Af_tr a1 b1, by omega, by rw [b3, a3, hl]; omega, fun i h0 h1 => ?_, sg_26_app (fun i q h => ?_) (by rw [← a3]; exact b5)⟩
  · obtain ⟨c1, c2, c3⟩ := b4 i h0 (by omega)
    obtain ⟨d1, d2, d3⟩ := a4 i h0 h1
    exact ⟨c1.trans d1, c2.trans d2, c3.trans d3⟩
  · have hi : i < l.length := by
      refine Decidable.byContradiction (fun e => ?_)
      rw [List.getElem?_eq_none (by omega)] at h
      cases h
    obtain ⟨c1, c2, c3⟩ := b4 (mi_sF σ 26 7 + i) (by omega) (by omega)
    obtain ⟨d1, d2, d3⟩ := a5 i q h
    exact ⟨c1.trans d1, c2.trans d2, c3.trans d3⟩
theorem ps26_eq {σ σ1 : mi_Sg} {n m : Int} {l l' : List (Int × Int × Int)} (a : ps26_Q σ σ1 n l) (h : n = m) (h' : l = l') : ps26_Q σ σ1 m l' := by
  rw [← h, ← h']
  exact a
/-- what the parser rests on -/
def pw26 (σ : mi_Sg) : Prop := mi_sF σ 2 0 = 0 ∧ mi_sF σ 42 2 = 26 ∧ 0 ≤ mi_sF σ 42 3 ∧ mi_sF σ 3 7 ≤ 301 ∧ 0 ≤ mi_sF σ 26 7
theorem ps26_pw {σ σ1 : mi_Sg} {n : Int} {l : List (Int × Int × Int)} (a : ps26_Q σ σ1 n l) (p : pw26 σ) (hn : 0 ≤ n) : pw26 σ1 := by
  obtain ⟨a1, a2, a3, a4, a5⟩ := a
  obtain ⟨p1, p2, p3, p4, p5⟩ := p
  exact ⟨(a1.2.2 2 0 (by decide)).trans p1, (a1.2.2 42 2 (by decide)).trans p2, by omega, by rw [a1.2.2 3 7 (by decide)]; exact p4, by omega⟩
theorem ps26_k {σ σ1 : mi_Sg} {n m w : Int} {l : List (Int × Int × Int)} (a : ps26_Q σ σ1 n l) (h : mi_sA σ 5 (mi_sF σ 42 3 + m) = w) (e : n = m) : mi_sA σ1 5 (mi_sF σ1 42 3) = w := by
  rw [a.2.1, e, a.1.2.1 5 _ (by decide)]
  exact h
theorem ps26_7 {σ σ1 : mi_Sg} {n : Int} {l : List (Int × Int × Int)} (a : ps26_Q σ σ1 n l) : mi_sF σ1 3 7 = mi_sF σ 3 7 ∧ mi_sF σ1 42 3 = mi_sF σ 42 3 + n ∧ mi_sF σ1 26 7 = mi_sF σ 26 7 + l.length := ⟨a.1.2.2 3 7 (by decide), a.2.1, a.2.2.1⟩
theorem ps26_ad {σ : mi_Sg} {k a b c : Int} (h : 0 ≤ mi_sF σ 26 7) : ps26_Q σ (st26_ad σ k a b c) 0 [(k, a, b)] := by
  refine ⟨?_, ?_, ?_, fun i h0 h1 => ?_, fun i q hq => ?_⟩
  · unfold st26_ad
    exact sg_Af_F (sg_Af_A (sg_Af_A (sg_Af_A (sg_Af_A (sg_Af_A (sg_Af_A (sg_Af_A sg_Af_rf (by decide)) (by decide)) (by decide)) (by decide)) (by decide)) (by decide)) (by decide)) (by decide)
  · simp [st26_ad, mi_FF, mi_FA]
  · simp [st26_ad, mi_FF, mi_FA]
  · simp [st26_ad, mi_AA, mi_AF, show i ≠ mi_sF σ 26 7 by omega]
  · match i, hq with
    | 0, hq =>
      simp at hq
      subst hq
      simp [st26_ad, mi_AA, mi_AF]
    | i + 1, hq => simp at hq
theorem ps26_tk {σ : mi_Sg} : ps26_Q σ (mi_uF σ 42 3 (mi_sF σ 42 3 + 1)) 1 [] := by
  refine ⟨sg_Af_F sg_Af_rf (by decide), by simp [mi_FF], by simp [mi_FF], fun _ _ _ => ⟨rfl, rfl, rfl⟩, fun i q h => by simp at h⟩
theorem ps26_sp {σ : mi_Sg} {s a b : Int} : ps26_Q σ (mi_uA (mi_uA σ 31 s a) 32 s b) 0 [] := by
  refine ⟨sg_Af_A (sg_Af_A sg_Af_rf (by decide)) (by decide), by simp [mi_FA], by simp [mi_FA], fun i _ _ => ?_, fun i q h => by simp at h⟩
  simp [mi_AA]
theorem pr26_kind {X : mi_X} {σ : mi_Sg} {d : Nat} {w : Int} (h0 : mi_sF σ 2 0 = 0) (h1 : 0 ≤ mi_sF σ 42 3) (h2 : mi_sF σ 42 3 < mi_sF σ 3 7) (h3 : mi_sF σ 3 7 ≤ 301) (hk : mi_sA σ 5 (mi_sF σ 42 3) = w) : ty_Ci X (d + 1) mi_M71 [(0, .ref 42)] σ (fun x σ' => x = w ∧ σ' = σ) := by
  intro h S
  have fr := mi_Fm_rf h
  refine mi_wp_p (pc' := 1) (st' := [.ref 42]) rfl rfl rfl ?_
  refine ty_s_gr S rfl rfl rfl (List.mem_of_getElem? (i := 47) rfl) ?_
  refine ty_s_ci rfl rfl rfl rfl rfl rfl (mi_cal_v2 (np := 0) (args := [.ref 2]) (rest := []) rfl rfl rfl rfl rfl (Nat.le_of_ble_eq_true rfl) rfl rfl (Nat.le_of_ble_eq_true rfl) (ty_rcS S (List.mem_of_getElem? (i := 1) rfl))) (Nat.le_of_ble_eq_true rfl) S (fa_stands h0) ?_
  intro x hh σu S f P
  obtain ⟨e1, e2⟩ := P
  rw [e2] at S
  rw [e1]
  clear e1 e2
  replace fr := mi_Fm_tr fr f
  refine mi_s_if1 (t := 15) rfl rfl rfl (by unfold mi_R; omega) (fun _ => ?_) (fun hc_ => absurd (show (0 : Int) = 0 by omega) hc_)
  refine mi_wp_p (pc' := 16) (st' := [.ref 42]) rfl rfl rfl ?_
  refine ty_s_gr S rfl rfl rfl (List.mem_of_getElem? (i := 46) rfl) ?_
  refine mi_wp_p (pc' := 20) (st' := [.ref 42, .ref 3]) rfl rfl rfl ?_
  refine ty_s_gf (x := mi_sF σ 42 3) S rfl rfl rfl (List.mem_of_getElem? (i := 18) rfl) rfl ?_
  refine ty_s_ci rfl rfl rfl rfl rfl rfl (mi_cal_v2 (np := 1) (args := [.ref 3, .int (Int32.ofInt (mi_sF σ 42 3))]) (rest := []) rfl rfl rfl rfl rfl (Nat.le_of_ble_eq_true rfl) rfl rfl (Nat.le_of_ble_eq_true rfl) (ty_rcS S (List.mem_of_getElem? (i := 3) rfl))) (Nat.le_of_ble_eq_true rfl) S (to_kindOf h1 h2 h3) ?_
  intro x hh σu S f P
  obtain ⟨e1, e2⟩ := P
  rw [e2] at S
  rw [e1]
  clear e1 e2
  replace fr := mi_Fm_tr fr f
  rw [hk]
  exact ty_s_ret S fr rfl rfl rfl (mi_ret_i rfl) ⟨_, rfl, rfl, rfl⟩
theorem pr26_take {X : mi_X} {σ : mi_Sg} {d : Nat} {w : Int} (h0 : mi_sF σ 2 0 = 0) (h1 : 0 ≤ mi_sF σ 42 3) (h2 : mi_sF σ 42 3 < mi_sF σ 3 7) (h3 : mi_sF σ 3 7 ≤ 301) (hk : mi_sA σ 5 (mi_sF σ 42 3) = w) (hw : 0 ≤ w ∧ w ≤ 1000) : ty_Cv X (d + 2) mi_M83 [(0, .ref 42), (1, .int (Int32.ofInt w))] σ (fun σ' => ps26_Q σ σ' 1 []) := by
  intro h S
  have fr := mi_Fm_rf h
  refine mi_wp_p (pc' := 1) (st' := [.ref 42]) rfl rfl rfl ?_
  refine ty_s_ci rfl rfl rfl rfl rfl rfl (mi_cal_v2 (np := 0) (args := [.ref 42]) (rest := []) rfl rfl rfl rfl rfl (Nat.le_of_ble_eq_true rfl) rfl rfl (Nat.le_of_ble_eq_true rfl) (ty_rcS S (List.mem_of_getElem? (i := 18) rfl))) (Nat.le_of_ble_eq_true rfl) S (pr26_kind h0 h1 h2 h3 hk) ?_
  intro x hh σu S f P
  obtain ⟨e1, e2⟩ := P
  rw [e2] at S
  rw [e1]
  clear e1 e2
  replace fr := mi_Fm_tr fr f
  refine mi_wp_p (pc' := 5) (st' := [.int (Int32.ofInt w), .int (Int32.ofInt w)]) rfl rfl rfl ?_
  refine mi_s_if2 (t := 21) rfl rfl rfl (by unfold mi_R; omega) (by unfold mi_R; omega) (fun hc_ => absurd (show w ≠ w from hc_) (by omega)) (fun _ => ?_)
  refine mi_wp_p (pc' := 9) (st' := [.ref 42]) rfl rfl rfl ?_
  refine mi_wp_p (pc' := 10) (st' := [.ref 42, .ref 42]) rfl rfl rfl ?_
  refine ty_s_gf (x := mi_sF σ 42 3) S rfl rfl rfl (List.mem_of_getElem? (i := 18) rfl) rfl ?_
  refine mi_wp_p (pc' := 14) (st' := [.int (Int32.ofInt 1), .int (Int32.ofInt (mi_sF σ 42 3)), .ref 42]) rfl rfl rfl ?_
  refine mi_s_add rfl rfl ?_
  refine ty_s_pf S rfl rfl rfl (List.mem_of_getElem? (i := 18) rfl) (by decide) mi_fit_int (Or.inl rfl) ?_
  intro h1 S f
  replace fr := mi_Fm_tr fr f
  refine mi_wp_p (pc' := 25) rfl rfl rfl ?_
  exact ty_s_ret S fr rfl rfl rfl rfl ⟨rfl, ps26_tk⟩
theorem pr26_add {X : mi_X} {σ : mi_Sg} {d : Nat} {k a b c : Int} (pw : pw26 σ) (hs : mi_sF σ 26 7 < 1024) : ty_Ci X (d + 1) mi_M59 [(0, .ref 42), (1, .int (Int32.ofInt k)), (2, .int (Int32.ofInt a)), (3, .int (Int32.ofInt b)), (4, .int (Int32.ofInt c))] σ (fun x σ' => x = mi_sF σ 26 7 ∧ ps26_Q σ σ' 0 [(k, a, b)]) := by
  intro h S
  have fr := mi_Fm_rf h
  refine mi_wp_p (pc' := 1) (st' := [.ref 42]) rfl rfl rfl ?_
  refine ty_s_gv (q := 26) S rfl rfl rfl (List.mem_of_getElem? (i := 0) rfl) pw.2.1 ?_
  refine mi_wp_p (pc' := 5) (st' := [.int (Int32.ofInt k), .ref 26]) rfl rfl rfl ?_
  refine mi_wp_p (pc' := 6) (st' := [.int (Int32.ofInt a), .int (Int32.ofInt k), .ref 26]) rfl rfl rfl ?_
  refine mi_wp_p (pc' := 7) (st' := [.int (Int32.ofInt b), .int (Int32.ofInt a), .int (Int32.ofInt k), .ref 26]) rfl rfl rfl ?_
  refine mi_wp_p (pc' := 9) (st' := [.int (Int32.ofInt c), .int (Int32.ofInt b), .int (Int32.ofInt a), .int (Int32.ofInt k), .ref 26]) rfl rfl rfl ?_
  refine ty_s_ci rfl rfl rfl rfl rfl rfl (mi_cal_v2 (np := 4) (args := [.ref 26, .int (Int32.ofInt k), .int (Int32.ofInt a), .int (Int32.ofInt b), .int (Int32.ofInt c)]) (rest := []) rfl rfl rfl rfl rfl (Nat.le_of_ble_eq_true rfl) rfl rfl (Nat.le_of_ble_eq_true rfl) (ty_rcS S (List.mem_of_getElem? (i := 16) rfl))) (Nat.le_of_ble_eq_true rfl) S (st26_add pw.2.2.2.2 hs) ?_
  intro x hh σ1 S f P
  obtain ⟨e1, e2⟩ := P
  replace fr := mi_Fm_tr fr f
  exact ty_s_ret S fr rfl rfl rfl (mi_ret_i rfl) ⟨_, rfl, e1, by rw [e2]; exact ps26_ad pw.2.2.2.2⟩
theorem pr26_addExpression {X : mi_X} {σ : mi_Sg} {d : Nat} {k a b ft : Int} (pw : pw26 σ) (hs : mi_sF σ 26 7 < 1023) (ft0 : 0 ≤ ft) (ft1 : ft < mi_sF σ 42 3) (h2 : mi_sF σ 42 3 ≤ mi_sF σ 3 7) : ty_Ci X (d + 2) mi_M60 [(0, .ref 42), (1, .int (Int32.ofInt k)), (2, .int (Int32.ofInt a)), (3, .int (Int32.ofInt b)), (4, .int (Int32.ofInt ft))] σ (fun x σ' => x = mi_sF σ 26 7 ∧ ps26_Q σ σ' 0 [(k, a, b)]) := by
  intro h S
  have fr := mi_Fm_rf h
  refine mi_wp_p (pc' := 1) (st' := [.ref 42]) rfl rfl rfl ?_
  refine mi_wp_p (pc' := 2) (st' := [.int (Int32.ofInt k), .ref 42]) rfl rfl rfl ?_
  refine mi_wp_p (pc' := 3) (st' := [.int (Int32.ofInt a), .int (Int32.ofInt k), .ref 42]) rfl rfl rfl ?_
  refine mi_wp_p (pc' := 4) (st' := [.int (Int32.ofInt b), .int (Int32.ofInt a), .int (Int32.ofInt k), .ref 42]) rfl rfl rfl ?_
  refine mi_wp_p (pc' := 5) (st' := [.int (Int32.ofInt 0), .int (Int32.ofInt b), .int (Int32.ofInt a), .int (Int32.ofInt k), .ref 42]) rfl rfl rfl ?_
  refine ty_s_ci rfl rfl rfl rfl rfl rfl (mi_cal_v2 (np := 4) (args := [.ref 42, .int (Int32.ofInt k), .int (Int32.ofInt a), .int (Int32.ofInt b), .int (Int32.ofInt 0)]) (rest := []) rfl rfl rfl rfl rfl (Nat.le_of_ble_eq_true rfl) rfl rfl (Nat.le_of_ble_eq_true rfl) (ty_rcS S (List.mem_of_getElem? (i := 18) rfl))) (Nat.le_of_ble_eq_true rfl) S (pr26_add pw (by omega)) ?_
  intro x hh σ1 S f P
  obtain ⟨e1, A1⟩ := P
  rw [e1]
  have pw1 := ps26_pw A1 pw (Int.le_refl 0)
  have q7 := ps26_7 A1
  simp only [List.length_singleton] at q7
  replace fr := mi_Fm_tr fr f
  refine mi_wp_p (pc' := 10) (l' := [(5, .int (Int32.ofInt (mi_sF σ 26 7))), (0, .ref 42), (1, .int (Int32.ofInt k)), (2, .int (Int32.ofInt a)), (3, .int (Int32.ofInt b)), (4, .int (Int32.ofInt ft))]) (st' := []) rfl rfl rfl ?_
  refine mi_wp_p (pc' := 11) (st' := [.ref 42]) rfl rfl rfl ?_
  refine ty_s_gv (q := 26) S rfl rfl rfl (List.mem_of_getElem? (i := 0) rfl) (by first | exact pw.2.1 | exact pw1.2.1) ?_
  refine mi_wp_p (pc' := 16) (st' := [.int (Int32.ofInt (mi_sF σ 26 7)), .ref 26]) rfl rfl rfl ?_
  refine mi_wp_p (pc' := 17) (st' := [.ref 42, .int (Int32.ofInt (mi_sF σ 26 7)), .ref 26]) rfl rfl rfl ?_
  refine ty_s_gr S rfl rfl rfl (List.mem_of_getElem? (i := 46) rfl) ?_
  refine mi_wp_p (pc' := 22) (st' := [.int (Int32.ofInt ft), .ref 3, .int (Int32.ofInt (mi_sF σ 26 7)), .ref 26]) rfl rfl rfl ?_
  refine ty_s_ci rfl rfl rfl rfl rfl rfl (mi_cal_v2 (np := 1) (args := [.ref 3, .int (Int32.ofInt ft)]) (rest := [.int (Int32.ofInt (mi_sF σ 26 7)), .ref 26]) rfl rfl rfl rfl rfl (Nat.le_of_ble_eq_true rfl) rfl rfl (Nat.le_of_ble_eq_true rfl) (ty_rcS S (List.mem_of_getElem? (i := 3) rfl))) (Nat.le_of_ble_eq_true rfl) S (to_placeOf ft0 (by omega) pw1.2.2.2.1) ?_
  intro x hh σu S f P
  obtain ⟨e1, e2⟩ := P
  rw [e2] at S
  rw [e1]
  clear e1 e2
  replace fr := mi_Fm_tr fr f
  refine mi_wp_p (pc' := 26) (st' := [.ref 42, .int (Int32.ofInt (mi_sA σ1 6 ft)), .int (Int32.ofInt (mi_sF σ 26 7)), .ref 26]) rfl rfl rfl ?_
  refine ty_s_gr S rfl rfl rfl (List.mem_of_getElem? (i := 46) rfl) ?_
  refine mi_wp_p (pc' := 30) (st' := [.ref 42, .ref 3, .int (Int32.ofInt (mi_sA σ1 6 ft)), .int (Int32.ofInt (mi_sF σ 26 7)), .ref 26]) rfl rfl rfl ?_
  refine ty_s_gf (x := mi_sF σ1 42 3) S rfl rfl rfl (List.mem_of_getElem? (i := 18) rfl) rfl ?_
  refine mi_wp_p (pc' := 34) (st' := [.int (Int32.ofInt 1), .int (Int32.ofInt (mi_sF σ1 42 3)), .ref 3, .int (Int32.ofInt (mi_sA σ1 6 ft)), .int (Int32.ofInt (mi_sF σ 26 7)), .ref 26]) rfl rfl rfl ?_
  refine mi_s_sub rfl rfl ?_
  refine ty_s_ci rfl rfl rfl rfl rfl rfl (mi_cal_v2 (np := 1) (args := [.ref 3, .int (Int32.ofInt ((mi_sF σ1 42 3) - 1))]) (rest := [.int (Int32.ofInt (mi_sA σ1 6 ft)), .int (Int32.ofInt (mi_sF σ 26 7)), .ref 26]) rfl rfl rfl rfl rfl (Nat.le_of_ble_eq_true rfl) rfl rfl (Nat.le_of_ble_eq_true rfl) (ty_rcS S (List.mem_of_getElem? (i := 3) rfl))) (Nat.le_of_ble_eq_true rfl) S (to_lastOf (by omega) (by omega) pw1.2.2.2.1) ?_
  intro x hh σu S f P
  obtain ⟨e1, e2⟩ := P
  rw [e2] at S
  rw [e1]
  clear e1 e2
  replace fr := mi_Fm_tr fr f
  refine ty_s_cv rfl rfl rfl rfl rfl rfl (mi_cal_v2 (np := 3) (args := [.ref 26, .int (Int32.ofInt (mi_sF σ 26 7)), .int (Int32.ofInt (mi_sA σ1 6 ft)), .int (Int32.ofInt (mi_sA σ1 7 (mi_sF σ1 42 3 - 1)))]) (rest := []) rfl rfl rfl rfl rfl (Nat.le_of_ble_eq_true rfl) rfl rfl (Nat.le_of_ble_eq_true rfl) (ty_rcS S (List.mem_of_getElem? (i := 16) rfl))) (Nat.le_of_ble_eq_true rfl) S (st26_setSpan pw.2.2.2.2 (by omega) (by omega)) ?_
  intro hh σ2 S f P
  replace fr := mi_Fm_tr fr f
  refine mi_wp_p (pc' := 43) (st' := [.int (Int32.ofInt (mi_sF σ 26 7))]) rfl rfl rfl ?_
  subst P
  exact ty_s_ret S fr rfl rfl rfl (mi_ret_i rfl) ⟨_, rfl, rfl, ps26_eq (ps26_tr pw.2.2.2.2 A1 ps26_sp) (by omega) (by simp)⟩
/-! ===== the parser, steps in 34: what a piece of it adds ===== -/
def sg_34 (σ : mi_Sg) (s : Int) (l : List (Int × Int × Int)) : Prop := ∀ (i : Nat) (q : Int × Int × Int), l[i]? = some q → mi_sA σ 35 (s + i) = q.1 ∧ mi_sA σ 36 (s + i) = q.2.1 ∧ mi_sA σ 37 (s + i) = q.2.2
/-- n tokens on, the steps l more -/
def ps34_Q (σ σ' : mi_Sg) (n : Int) (l : List (Int × Int × Int)) : Prop := sg_Af [35, 36, 37, 38, 39, 40, 41] [(34, 7), (42, 3)] σ σ' ∧ mi_sF σ' 42 3 = mi_sF σ 42 3 + n ∧ mi_sF σ' 34 7 = mi_sF σ 34 7 + l.length ∧ (∀ i, 0 ≤ i → i < mi_sF σ 34 7 → mi_sA σ' 35 i = mi_sA σ 35 i ∧ mi_sA σ' 36 i = mi_sA σ 36 i ∧ mi_sA σ' 37 i = mi_sA σ 37 i) ∧ sg_34 σ' (mi_sF σ 34 7) l
theorem sg_34_app {σ : mi_Sg} {s : Int} {l l' : List (Int × Int × Int)} (a : sg_34 σ s l) (b : sg_34 σ (s + l.length) l') : sg_34 σ s (l ++ l') := fun i q h => by
  by_cases e : i < l.length
  · rw [List.getElem?_append_left e] at h
    exact a i q h
  · rw [List.getElem?_append_right (by omega)] at h
    have := b _ q h
    rw [show s + (l.length : Int) + ((i - l.length : Nat) : Int) = s + (i : Int) by omega] at this
    exact this
theorem ps34_rf {σ : mi_Sg} : ps34_Q σ σ 0 [] := ⟨sg_Af_rf, by omega, by simp, fun _ _ _ => ⟨rfl, rfl, rfl⟩, fun i q h => by simp at h⟩
theorem ps34_tr {σ σ1 σ2 : mi_Sg} {n m : Int} {l l' : List (Int × Int × Int)} (hs : 0 ≤ mi_sF σ 34 7) (a : ps34_Q σ σ1 n l) (b : ps34_Q σ1 σ2 m l') : ps34_Q σ σ2 (n + m) (l ++ l') := by
  obtain ⟨a1, a2, a3, a4, a5⟩ := a
  obtain ⟨b1, b2, b3, b4, b5⟩ := b
  have hl := List.length_append (as := l) (bs := l')
  refine ⟨sg_Af_tr a1 b1, by omega, by rw [b3, a3, hl]; omega, fun i h0 h1 => ?_, sg_34_app (fun i q h => ?_) (by rw [← a3]; exact b5)⟩
  · obtain ⟨c1, c2, c3⟩ := b4 i h0 (by omega)
    obtain ⟨d1, d2, d3⟩ := a4 i h0 h1
    exact ⟨c1.trans d1, c2.trans d2, c3.trans d3⟩
  · have hi : i < l.length := by
      refine Decidable.byContradiction (fun e => ?_)
      rw [List.getElem?_eq_none (by omega)] at h
      cases h
    obtain ⟨c1, c2, c3⟩ := b4 (mi_sF σ 34 7 + i) (by omega) (by omega)
    obtain ⟨d1, d2, d3⟩ := a5 i q h
    exact ⟨c1.trans d1, c2.trans d2, c3.trans d3⟩
theorem ps34_eq {σ σ1 : mi_Sg} {n m : Int} {l l' : List (Int × Int × Int)} (a : ps34_Q σ σ1 n l) (h : n = m) (h' : l = l') : ps34_Q σ σ1 m l' := by
  rw [← h, ← h']
  exact a
/-- what the parser rests on -/
def pw34 (σ : mi_Sg) : Prop := mi_sF σ 2 0 = 0 ∧ mi_sF σ 42 2 = 34 ∧ 0 ≤ mi_sF σ 42 3 ∧ mi_sF σ 3 7 ≤ 301 ∧ 0 ≤ mi_sF σ 34 7
theorem ps34_pw {σ σ1 : mi_Sg} {n : Int} {l : List (Int × Int × Int)} (a : ps34_Q σ σ1 n l) (p : pw34 σ) (hn : 0 ≤ n) : pw34 σ1 := by
  obtain ⟨a1, a2, a3, a4, a5⟩ := a
  obtain ⟨p1, p2, p3, p4, p5⟩ := p
  exact ⟨(a1.2.2 2 0 (by decide)).trans p1, (a1.2.2 42 2 (by decide)).trans p2, by omega, by rw [a1.2.2 3 7 (by decide)]; exact p4, by omega⟩
theorem ps34_k {σ σ1 : mi_Sg} {n m w : Int} {l : List (Int × Int × Int)} (a : ps34_Q σ σ1 n l) (h : mi_sA σ 5 (mi_sF σ 42 3 + m) = w) (e : n = m) : mi_sA σ1 5 (mi_sF σ1 42 3) = w := by
  rw [a.2.1, e, a.1.2.1 5 _ (by decide)]
  exact h
theorem ps34_7 {σ σ1 : mi_Sg} {n : Int} {l : List (Int × Int × Int)} (a : ps34_Q σ σ1 n l) : mi_sF σ1 3 7 = mi_sF σ 3 7 ∧ mi_sF σ1 42 3 = mi_sF σ 42 3 + n ∧ mi_sF σ1 34 7 = mi_sF σ 34 7 + l.length := ⟨a.1.2.2 3 7 (by decide), a.2.1, a.2.2.1⟩
theorem ps34_ad {σ : mi_Sg} {k a b c : Int} (h : 0 ≤ mi_sF σ 34 7) : ps34_Q σ (st34_ad σ k a b c) 0 [(k, a, b)] := by
  refine ⟨?_, ?_, ?_, fun i h0 h1 => ?_, fun i q hq => ?_⟩
  · unfold st34_ad
    exact sg_Af_F (sg_Af_A (sg_Af_A (sg_Af_A (sg_Af_A (sg_Af_A (sg_Af_A (sg_Af_A sg_Af_rf (by decide)) (by decide)) (by decide)) (by decide)) (by decide)) (by decide)) (by decide)) (by decide)
  · simp [st34_ad, mi_FF, mi_FA]
  · simp [st34_ad, mi_FF, mi_FA]
  · simp [st34_ad, mi_AA, mi_AF, show i ≠ mi_sF σ 34 7 by omega]
  · match i, hq with
    | 0, hq =>
      simp at hq
      subst hq
      simp [st34_ad, mi_AA, mi_AF]
    | i + 1, hq => simp at hq
theorem ps34_tk {σ : mi_Sg} : ps34_Q σ (mi_uF σ 42 3 (mi_sF σ 42 3 + 1)) 1 [] := by
  refine ⟨sg_Af_F sg_Af_rf (by decide), by simp [mi_FF], by simp [mi_FF], fun _ _ _ => ⟨rfl, rfl, rfl⟩, fun i q h => by simp at h⟩
theorem ps34_sp {σ : mi_Sg} {s a b : Int} : ps34_Q σ (mi_uA (mi_uA σ 39 s a) 40 s b) 0 [] := by
  refine ⟨sg_Af_A (sg_Af_A sg_Af_rf (by decide)) (by decide), by simp [mi_FA], by simp [mi_FA], fun i _ _ => ?_, fun i q h => by simp at h⟩
  simp [mi_AA]
theorem pr34_kind {X : mi_X} {σ : mi_Sg} {d : Nat} {w : Int} (h0 : mi_sF σ 2 0 = 0) (h1 : 0 ≤ mi_sF σ 42 3) (h2 : mi_sF σ 42 3 < mi_sF σ 3 7) (h3 : mi_sF σ 3 7 ≤ 301) (hk : mi_sA σ 5 (mi_sF σ 42 3) = w) : ty_Ci X (d + 1) mi_M71 [(0, .ref 42)] σ (fun x σ' => x = w ∧ σ' = σ) := by
  intro h S
  have fr := mi_Fm_rf h
  refine mi_wp_p (pc' := 1) (st' := [.ref 42]) rfl rfl rfl ?_
  refine ty_s_gr S rfl rfl rfl (List.mem_of_getElem? (i := 47) rfl) ?_
  refine ty_s_ci rfl rfl rfl rfl rfl rfl (mi_cal_v2 (np := 0) (args := [.ref 2]) (rest := []) rfl rfl rfl rfl rfl (Nat.le_of_ble_eq_true rfl) rfl rfl (Nat.le_of_ble_eq_true rfl) (ty_rcS S (List.mem_of_getElem? (i := 1) rfl))) (Nat.le_of_ble_eq_true rfl) S (fa_stands h0) ?_
  intro x hh σu S f P
  obtain ⟨e1, e2⟩ := P
  rw [e2] at S
  rw [e1]
  clear e1 e2
  replace fr := mi_Fm_tr fr f
  refine mi_s_if1 (t := 15) rfl rfl rfl (by unfold mi_R; omega) (fun _ => ?_) (fun hc_ => absurd (show (0 : Int) = 0 by omega) hc_)
  refine mi_wp_p (pc' := 16) (st' := [.ref 42]) rfl rfl rfl ?_
  refine ty_s_gr S rfl rfl rfl (List.mem_of_getElem? (i := 46) rfl) ?_
  refine mi_wp_p (pc' := 20) (st' := [.ref 42, .ref 3]) rfl rfl rfl ?_
  refine ty_s_gf (x := mi_sF σ 42 3) S rfl rfl rfl (List.mem_of_getElem? (i := 18) rfl) rfl ?_
  refine ty_s_ci rfl rfl rfl rfl rfl rfl (mi_cal_v2 (np := 1) (args := [.ref 3, .int (Int32.ofInt (mi_sF σ 42 3))]) (rest := []) rfl rfl rfl rfl rfl (Nat.le_of_ble_eq_true rfl) rfl rfl (Nat.le_of_ble_eq_true rfl) (ty_rcS S (List.mem_of_getElem? (i := 3) rfl))) (Nat.le_of_ble_eq_true rfl) S (to_kindOf h1 h2 h3) ?_
  intro x hh σu S f P
  obtain ⟨e1, e2⟩ := P
  rw [e2] at S
  rw [e1]
  clear e1 e2
  replace fr := mi_Fm_tr fr f
  rw [hk]
  exact ty_s_ret S fr rfl rfl rfl (mi_ret_i rfl) ⟨_, rfl, rfl, rfl⟩
theorem pr34_take {X : mi_X} {σ : mi_Sg} {d : Nat} {w : Int} (h0 : mi_sF σ 2 0 = 0) (h1 : 0 ≤ mi_sF σ 42 3) (h2 : mi_sF σ 42 3 < mi_sF σ 3 7) (h3 : mi_sF σ 3 7 ≤ 301) (hk : mi_sA σ 5 (mi_sF σ 42 3) = w) (hw : 0 ≤ w ∧ w ≤ 1000) : ty_Cv X (d + 2) mi_M83 [(0, .ref 42), (1, .int (Int32.ofInt w))] σ (fun σ' => ps34_Q σ σ' 1 []) := by
  intro h S
  have fr := mi_Fm_rf h
  refine mi_wp_p (pc' := 1) (st' := [.ref 42]) rfl rfl rfl ?_
  refine ty_s_ci rfl rfl rfl rfl rfl rfl (mi_cal_v2 (np := 0) (args := [.ref 42]) (rest := []) rfl rfl rfl rfl rfl (Nat.le_of_ble_eq_true rfl) rfl rfl (Nat.le_of_ble_eq_true rfl) (ty_rcS S (List.mem_of_getElem? (i := 18) rfl))) (Nat.le_of_ble_eq_true rfl) S (pr34_kind h0 h1 h2 h3 hk) ?_
  intro x hh σu S f P
  obtain ⟨e1, e2⟩ := P
  rw [e2] at S
  rw [e1]
  clear e1 e2
  replace fr := mi_Fm_tr fr f
  refine mi_wp_p (pc' := 5) (st' := [.int (Int32.ofInt w), .int (Int32.ofInt w)]) rfl rfl rfl ?_
  refine mi_s_if2 (t := 21) rfl rfl rfl (by unfold mi_R; omega) (by unfold mi_R; omega) (fun hc_ => absurd (show w ≠ w from hc_) (by omega)) (fun _ => ?_)
  refine mi_wp_p (pc' := 9) (st' := [.ref 42]) rfl rfl rfl ?_
  refine mi_wp_p (pc' := 10) (st' := [.ref 42, .ref 42]) rfl rfl rfl ?_
  refine ty_s_gf (x := mi_sF σ 42 3) S rfl rfl rfl (List.mem_of_getElem? (i := 18) rfl) rfl ?_
  refine mi_wp_p (pc' := 14) (st' := [.int (Int32.ofInt 1), .int (Int32.ofInt (mi_sF σ 42 3)), .ref 42]) rfl rfl rfl ?_
  refine mi_s_add rfl rfl ?_
  refine ty_s_pf S rfl rfl rfl (List.mem_of_getElem? (i := 18) rfl) (by decide) mi_fit_int (Or.inl rfl) ?_
  intro h2 S f
  replace fr := mi_Fm_tr fr f
  refine mi_wp_p (pc' := 25) rfl rfl rfl ?_
  exact ty_s_ret S fr rfl rfl rfl rfl ⟨rfl, ps34_tk⟩
theorem pr34_add {X : mi_X} {σ : mi_Sg} {d : Nat} {k a b c : Int} (pw : pw34 σ) (hs : mi_sF σ 34 7 < 1024) : ty_Ci X (d + 1) mi_M59 [(0, .ref 42), (1, .int (Int32.ofInt k)), (2, .int (Int32.ofInt a)), (3, .int (Int32.ofInt b)), (4, .int (Int32.ofInt c))] σ (fun x σ' => x = mi_sF σ 34 7 ∧ ps34_Q σ σ' 0 [(k, a, b)]) := by
  intro h S
  have fr := mi_Fm_rf h
  refine mi_wp_p (pc' := 1) (st' := [.ref 42]) rfl rfl rfl ?_
  refine ty_s_gv (q := 34) S rfl rfl rfl (List.mem_of_getElem? (i := 0) rfl) pw.2.1 ?_
  refine mi_wp_p (pc' := 5) (st' := [.int (Int32.ofInt k), .ref 34]) rfl rfl rfl ?_
  refine mi_wp_p (pc' := 6) (st' := [.int (Int32.ofInt a), .int (Int32.ofInt k), .ref 34]) rfl rfl rfl ?_
  refine mi_wp_p (pc' := 7) (st' := [.int (Int32.ofInt b), .int (Int32.ofInt a), .int (Int32.ofInt k), .ref 34]) rfl rfl rfl ?_
  refine mi_wp_p (pc' := 9) (st' := [.int (Int32.ofInt c), .int (Int32.ofInt b), .int (Int32.ofInt a), .int (Int32.ofInt k), .ref 34]) rfl rfl rfl ?_
  refine ty_s_ci rfl rfl rfl rfl rfl rfl (mi_cal_v2 (np := 4) (args := [.ref 34, .int (Int32.ofInt k), .int (Int32.ofInt a), .int (Int32.ofInt b), .int (Int32.ofInt c)]) (rest := []) rfl rfl rfl rfl rfl (Nat.le_of_ble_eq_true rfl) rfl rfl (Nat.le_of_ble_eq_true rfl) (ty_rcS S (List.mem_of_getElem? (i := 17) rfl))) (Nat.le_of_ble_eq_true rfl) S (st34_add pw.2.2.2.2 hs) ?_
  intro x hh σ1 S f P
  obtain ⟨e1, e2⟩ := P
  replace fr := mi_Fm_tr fr f
  exact ty_s_ret S fr rfl rfl rfl (mi_ret_i rfl) ⟨_, rfl, e1, by rw [e2]; exact ps34_ad pw.2.2.2.2⟩
theorem pr34_addExpression {X : mi_X} {σ : mi_Sg} {d : Nat} {k a b ft : Int} (pw : pw34 σ) (hs : mi_sF σ 34 7 < 1023) (ft0 : 0 ≤ ft) (ft1 : ft < mi_sF σ 42 3) (h2 : mi_sF σ 42 3 ≤ mi_sF σ 3 7) : ty_Ci X (d + 2) mi_M60 [(0, .ref 42), (1, .int (Int32.ofInt k)), (2, .int (Int32.ofInt a)), (3, .int (Int32.ofInt b)), (4, .int (Int32.ofInt ft))] σ (fun x σ' => x = mi_sF σ 34 7 ∧ ps34_Q σ σ' 0 [(k, a, b)]) := by
  intro h S
  have fr := mi_Fm_rf h
  refine mi_wp_p (pc' := 1) (st' := [.ref 42]) rfl rfl rfl ?_
  refine mi_wp_p (pc' := 2) (st' := [.int (Int32.ofInt k), .ref 42]) rfl rfl rfl ?_
  refine mi_wp_p (pc' := 3) (st' := [.int (Int32.ofInt a), .int (Int32.ofInt k), .ref 42]) rfl rfl rfl ?_
  refine mi_wp_p (pc' := 4) (st' := [.int (Int32.ofInt b), .int (Int32.ofInt a), .int (Int32.ofInt k), .ref 42]) rfl rfl rfl ?_
  refine mi_wp_p (pc' := 5) (st' := [.int (Int32.ofInt 0), .int (Int32.ofInt b), .int (Int32.ofInt a), .int (Int32.ofInt k), .ref 42]) rfl rfl rfl ?_
  refine ty_s_ci rfl rfl rfl rfl rfl rfl (mi_cal_v2 (np := 4) (args := [.ref 42, .int (Int32.ofInt k), .int (Int32.ofInt a), .int (Int32.ofInt b), .int (Int32.ofInt 0)]) (rest := []) rfl rfl rfl rfl rfl (Nat.le_of_ble_eq_true rfl) rfl rfl (Nat.le_of_ble_eq_true rfl) (ty_rcS S (List.mem_of_getElem? (i := 18) rfl))) (Nat.le_of_ble_eq_true rfl) S (pr34_add pw (by omega)) ?_
  intro x hh σ1 S f P
  obtain ⟨e1, A1⟩ := P
  rw [e1]
  have pw1 := ps34_pw A1 pw (Int.le_refl 0)
  have q7 := ps34_7 A1
  simp only [List.length_singleton] at q7
  replace fr := mi_Fm_tr fr f
  refine mi_wp_p (pc' := 10) (l' := [(5, .int (Int32.ofInt (mi_sF σ 34 7))), (0, .ref 42), (1, .int (Int32.ofInt k)), (2, .int (Int32.ofInt a)), (3, .int (Int32.ofInt b)), (4, .int (Int32.ofInt ft))]) (st' := []) rfl rfl rfl ?_
  refine mi_wp_p (pc' := 11) (st' := [.ref 42]) rfl rfl rfl ?_
  refine ty_s_gv (q := 34) S rfl rfl rfl (List.mem_of_getElem? (i := 0) rfl) (by first | exact pw.2.1 | exact pw1.2.1) ?_
  refine mi_wp_p (pc' := 16) (st' := [.int (Int32.ofInt (mi_sF σ 34 7)), .ref 34]) rfl rfl rfl ?_
  refine mi_wp_p (pc' := 17) (st' := [.ref 42, .int (Int32.ofInt (mi_sF σ 34 7)), .ref 34]) rfl rfl rfl ?_
  refine ty_s_gr S rfl rfl rfl (List.mem_of_getElem? (i := 46) rfl) ?_
  refine mi_wp_p (pc' := 22) (st' := [.int (Int32.ofInt ft), .ref 3, .int (Int32.ofInt (mi_sF σ 34 7)), .ref 34]) rfl rfl rfl ?_
  refine ty_s_ci rfl rfl rfl rfl rfl rfl (mi_cal_v2 (np := 1) (args := [.ref 3, .int (Int32.ofInt ft)]) (rest := [.int (Int32.ofInt (mi_sF σ 34 7)), .ref 34]) rfl rfl rfl rfl rfl (Nat.le_of_ble_eq_true rfl) rfl rfl (Nat.le_of_ble_eq_true rfl) (ty_rcS S (List.mem_of_getElem? (i := 3) rfl))) (Nat.le_of_ble_eq_true rfl) S (to_placeOf ft0 (by omega) pw1.2.2.2.1) ?_
  intro x hh σu S f P
  obtain ⟨e1, e2⟩ := P
  rw [e2] at S
  rw [e1]
  clear e1 e2
  replace fr := mi_Fm_tr fr f
  refine mi_wp_p (pc' := 26) (st' := [.ref 42, .int (Int32.ofInt (mi_sA σ1 6 ft)), .int (Int32.ofInt (mi_sF σ 34 7)), .ref 34]) rfl rfl rfl ?_
  refine ty_s_gr S rfl rfl rfl (List.mem_of_getElem? (i := 46) rfl) ?_
  refine mi_wp_p (pc' := 30) (st' := [.ref 42, .ref 3, .int (Int32.ofInt (mi_sA σ1 6 ft)), .int (Int32.ofInt (mi_sF σ 34 7)), .ref 34]) rfl rfl rfl ?_
  refine ty_s_gf (x := mi_sF σ1 42 3) S rfl rfl rfl (List.mem_of_getElem? (i := 18) rfl) rfl ?_
  refine mi_wp_p (pc' := 34) (st' := [.int (Int32.ofInt 1), .int (Int32.ofInt (mi_sF σ1 42 3)), .ref 3, .int (Int32.ofInt (mi_sA σ1 6 ft)), .int (Int32.ofInt (mi_sF σ 34 7)), .ref 34]) rfl rfl rfl ?_
  refine mi_s_sub rfl rfl ?_
  refine ty_s_ci rfl rfl rfl rfl rfl rfl (mi_cal_v2 (np := 1) (args := [.ref 3, .int (Int32.ofInt ((mi_sF σ1 42 3) - 1))]) (rest := [.int (Int32.ofInt (mi_sA σ1 6 ft)), .int (Int32.ofInt (mi_sF σ 34 7)), .ref 34]) rfl rfl rfl rfl rfl (Nat.le_of_ble_eq_true rfl) rfl rfl (Nat.le_of_ble_eq_true rfl) (ty_rcS S (List.mem_of_getElem? (i := 3) rfl))) (Nat.le_of_ble_eq_true rfl) S (to_lastOf (by omega) (by omega) pw1.2.2.2.1) ?_
  intro x hh σu S f P
  obtain ⟨e1, e2⟩ := P
  rw [e2] at S
  rw [e1]
  clear e1 e2
  replace fr := mi_Fm_tr fr f
  refine ty_s_cv rfl rfl rfl rfl rfl rfl (mi_cal_v2 (np := 3) (args := [.ref 34, .int (Int32.ofInt (mi_sF σ 34 7)), .int (Int32.ofInt (mi_sA σ1 6 ft)), .int (Int32.ofInt (mi_sA σ1 7 (mi_sF σ1 42 3 - 1)))]) (rest := []) rfl rfl rfl rfl rfl (Nat.le_of_ble_eq_true rfl) rfl rfl (Nat.le_of_ble_eq_true rfl) (ty_rcS S (List.mem_of_getElem? (i := 17) rfl))) (Nat.le_of_ble_eq_true rfl) S (st34_setSpan pw.2.2.2.2 (by omega) (by omega)) ?_
  intro hh σ2 S f P
  replace fr := mi_Fm_tr fr f
  refine mi_wp_p (pc' := 43) (st' := [.int (Int32.ofInt (mi_sF σ 34 7))]) rfl rfl rfl ?_
  subst P
  exact ty_s_ret S fr rfl rfl rfl (mi_ret_i rfl) ⟨_, rfl, rfl, ps34_eq (ps34_tr pw.2.2.2.2 A1 ps34_sp) (by omega) (by simp)⟩
