/-! ===== copy (printed by wip/gen/p_copy2.py) ===== -/
/-- what copy leaves -/
def cp_Q (stay x0 : Int) (T : Int → tr) (σ0 : mi_Sg) (x : Int) (σ : mi_Sg) : Prop := ∃ (S2 : Int → Prop) (T2 : Int → tr) (ν : Int → Int), ty_X σ0 σ ∧ sg_Af [10, 11, 12, 13, 14, 15, 16] [(9, 8), (9, 10), (9, 11)] σ0 σ ∧ mi_sF σ 9 11 = mi_sF σ0 9 11 + 1 ∧ ty_Z σ ∧ (∀ n, 0 ≤ n → n < mi_sF σ0 9 8 → T2 n = T n) ∧ mi_sF σ 9 8 ≤ mi_sF σ0 9 8 + pz (T x0) ∧ ty_T σ S2 T2 ∧ S2 x ∧ T2 x = sb (cp_t stay σ0 ν) (T x0) ∧ (stay = 0 → ∀ v, vin v (T x0) → mi_sA σ0 10 (v : Int) = 4 → mi_sF σ0 9 8 ≤ ν (v : Int) ∧ mi_sA σ 10 (ν (v : Int)) = 3) ∧ (stay = 0 → ∀ v w, vin v (T x0) → vin w (T x0) → mi_sA σ0 10 (v : Int) = 4 → mi_sA σ0 10 (w : Int) = 4 → ν (v : Int) = ν (w : Int) → v = w) ∧ (∀ n, S2 n → mi_sA σ 10 n = 3 ∨ 5 ≤ mi_sA σ 10 n → mi_sF σ0 9 9 ≤ n)
theorem cp_J_end {stay x0 : Int} {T T' : Int → tr} {l : List Int} {σ0 σ2 σ : mi_Sg} (E : ga_E (fun n => n ∈ l) x0 σ0 σ2) (H : ty_T σ0 (fun n => n ∈ l) T) (hl : (l.length : Int) = pz (T x0)) (J : cp_J stay T T' σ2 σ (mi_sF σ2 9 10)) (hx0 : 0 < x0) (hx1 : x0 < mi_sF σ0 9 8) : cp_Q stay x0 T σ0 (mi_sA σ 14 x0) σ := by
  obtain ⟨⟨J1, J2, J3⟩, J4, J5, J6, J7, J8, J9, J10⟩ := J
  have e8 := E.1.2.2 9 8 (by decide)
  have e9 := E.1.2.2 9 9 (by decide)
  have hc := ga_E_cnt E
  have eA : mi_sA σ2 10 = mi_sA σ0 10 := sg_Af_Ak E.1 (by decide)
  have X0 : ty_X σ0 σ2 := ⟨by omega, fun n _ _ => ⟨by rw [eA], E.1.2.1 12 _ (by decide), fun k _ _ => E.1.2.1 11 _ (by decide)⟩, E.1.2.1 12 _ (by decide)⟩
  obtain ⟨j, ⟨j0, j1⟩, ej⟩ := ga_E_root E hx0 hx1
  have F2 : sg_Af [10, 11, 12, 13, 14, 15, 16] [(9, 8), (9, 10), (9, 11)] σ0 σ := sg_Af_tr (sg_Af_w E.1 (by decide) (by decide)) (sg_Af_w J2 (by decide) (by decide))
  have e11 : mi_sF σ 9 11 = mi_sF σ2 9 11 := J2.2.2 9 11 (by decide)
  have ec : cp_t stay σ2 (mi_sA σ 14) = cp_t stay σ0 (mi_sA σ 14) := by
    funext v
    unfold cp_t
    rw [eA]
  refine ⟨_, T', mi_sA σ 14, ty_X_tr X0 J1, F2, by rw [e11]; exact E.2.1, J3, fun n a b => J4 n a (by omega), by omega, J6, ⟨j, ⟨j0, j1⟩, by rw [ej]⟩, ?_, fun hs v hv hm => ?_, fun hs v w hv hw hm hm' he => ?_, fun n hn q => ?_⟩
  · rw [← ec, ← ej]
    exact J7 j j0 j1
  · rw [← ej] at hv
    obtain ⟨j', ⟨a, b⟩, ej', -⟩ := ga_E_vin E H _ j rfl j0 j1 hv
    have := J8 hs j' a (by omega) (by rw [ej', eA]; exact hm)
    rw [ej'] at this
    exact ⟨by omega, this.2⟩
  · rw [← ej] at hv hw
    obtain ⟨j', ⟨a, b⟩, ev, -⟩ := ga_E_vin E H _ j rfl j0 j1 hv
    obtain ⟨j2, ⟨a2, b2⟩, ew, -⟩ := ga_E_vin E H _ j rfl j0 j1 hw
    rcases Int.lt_trichotomy j' j2 with q | q | q
    · have := J9 hs j' j2 a q (by omega) (by rw [ev, eA]; exact hm) (by rw [ew, eA]; exact hm')
      rw [ev, ew] at this
      omega
    · rw [q, ew] at ev
      omega
    · have := J9 hs j2 j' a2 q (by omega) (by rw [ew, eA]; exact hm') (by rw [ev, eA]; exact hm)
      rw [ev, ew] at this
      omega
  · obtain ⟨j', ⟨a, b⟩, ej'⟩ := hn
    rw [← ej'] at q ⊢
    have := J10 j' a b q
    omega
theorem cp_J_0 {Sx : Int → Prop} {stay x0 : Int} {T : Int → tr} {σ0 σ2 : mi_Sg} (E : ga_E Sx x0 σ0 σ2) (Z : ty_Z σ0) (H : ty_T σ0 Sx T) : cp_J stay T T σ2 σ2 0 := by
  refine ⟨⟨⟨Int.le_refl _, fun n _ _ => ⟨rfl, rfl, fun _ _ _ => rfl⟩, rfl⟩, sg_Af_rf, ga_E_Z E Z⟩, fun n _ _ => rfl, by omega, ⟨H.1, fun n hn => ?_⟩, fun j a b => by omega, fun _ j a b => by omega, fun _ j j' a b c => by omega, fun j a b => by omega⟩
  obtain ⟨j, ⟨a, b⟩, -⟩ := hn
  omega
theorem ty_copy_l {X : mi_X} {d : Nat} {h0 : mi_H} {l : List Int} {T : Int → tr} {σ0 σ2 : mi_Sg} {nd stay : Int} (E : ga_E (fun n => n ∈ l) (mi_sA σ0 12 nd) σ0 σ2) (Z : ty_Z σ0) (H : ty_T σ0 (fun n => n ∈ l) T) (hl : (l.length : Int) = pz (T (mi_sA σ0 12 nd))) (hroot : mi_sA σ0 12 nd ∈ l) (hz : 0 < nd) (h1 : nd < mi_sF σ0 9 8) (hroom : mi_sF σ0 9 8 + pz (T (mi_sA σ0 12 nd)) ≤ 512) (hst : stay = 0 ∨ stay = 1) (hf : 0 ≤ mi_sF σ0 9 9 ∧ mi_sF σ0 9 9 ≤ mi_sF σ0 9 8) (hU : ∀ n ∈ l, mi_sA σ0 10 n = 3 → mi_sF σ0 9 9 ≤ n) : ∀ (m : Nat) (σ : mi_Sg) (i : Int) (T' : Int → tr), (mi_sF σ2 9 10 - i).toNat = m → 0 ≤ i → i ≤ mi_sF σ2 9 10 → cp_J stay T T' σ2 σ i → ∀ h, ty_H h σ → mi_Fm h0 h → mi_wp X (d + 3) mi_M122 12 [(3, .int (Int32.ofInt i)), (0, .ref 9), (1, .int (Int32.ofInt nd)), (2, .int (Int32.ofInt stay))] [] h 0 0 (fun z => ∃ v h' σ', z = (.inl v, h', 0, 0) ∧ ty_H h' σ' ∧ mi_Fm h0 h' ∧ ∃ x, v = some (.int (Int32.ofInt x)) ∧ cp_Q stay (mi_sA σ0 12 nd) T σ0 x σ') := by
  intro m
  induction m using Nat.strongRecOn with
  | ind m ih =>
    intro σ i T' hm hi0 hi1 J h S fr
    have hu := ty_H_u S
    have e8b := E.1.2.2 9 8 (by decide)
    have e9b := E.1.2.2 9 9 (by decide)
    have e10 := J.1.2.1.2.2 9 10 (by decide)
    have e9 := J.1.2.1.2.2 9 9 (by decide)
    have hX := J.1.1
    have hX1 := hX.1
    have hg := ga_E_cnt E
    have hJ5 := J.2.2.1
    have e15 : mi_sA σ 15 = mi_sA σ2 15 := sg_Af_Ak J.1.2.1 (by decide)
    refine mi_wp_p (pc' := 13) (st' := [.int (Int32.ofInt i)]) rfl rfl rfl ?_
    refine mi_wp_p (pc' := 14) (st' := [.ref 9, .int (Int32.ofInt i)]) rfl rfl rfl ?_
    refine ty_s_gf (x := mi_sF σ 9 10) S rfl rfl rfl (List.mem_of_getElem? (i := 8) rfl) rfl ?_
    refine mi_s_if2 (t := 52) rfl rfl rfl (by unfold mi_R; omega) (by unfold mi_R; omega) ?_ ?_
    · intro (c1 : (mi_sF σ 9 10) ≤ i)
      refine mi_wp_p (pc' := 53) (st' := [.ref 9]) rfl rfl rfl ?_
      refine mi_wp_p (pc' := 54) (st' := [.int (Int32.ofInt nd), .ref 9]) rfl rfl rfl ?_
      refine ty_s_ci rfl rfl rfl rfl rfl rfl (mi_cal_v2 (np := 1) (args := [.ref 9, .int (Int32.ofInt nd)]) (rest := []) rfl rfl rfl rfl rfl (Nat.le_of_ble_eq_true rfl) rfl rfl (Nat.le_of_ble_eq_true rfl) (ty_rcS S (List.mem_of_getElem? (i := 5) rfl))) (Nat.le_of_ble_eq_true rfl) S (ty_noteOf (d := d + 1) (σ := σ) (Int.le_of_lt hz) (by omega)) ?_
      intro x hh σu S f P
      obtain ⟨e1, e2⟩ := P
      rw [e2] at S
      rw [e1]
      clear e1 e2
      replace fr := mi_Fm_tr fr f
      obtain rfl : i = mi_sF σ2 9 10 := by omega
      have q12 : mi_sA σ 12 nd = mi_sA σ0 12 nd := (hX.2.1 nd hz (by omega)).2.1.trans (E.1.2.1 12 _ (by decide))
      have hr := ty_H_r S hz (by omega)
      rw [q12] at hr
      have hq0 := (H.2 _ hroot).1
      exact ty_s_ret S fr rfl rfl rfl (mi_ret_i rfl) ⟨_, rfl, by rw [q12]; exact cp_J_end E H hl J hr.1 hq0.2⟩
    · intro (c1 : ¬ ((mi_sF σ 9 10) ≤ i))
      have hi : i < mi_sF σ2 9 10 := by omega
      obtain ⟨⟨n1, n2⟩, n3, n4⟩ := ga_E_i E hi0 hi
      obtain ⟨g1, g2, g3, g4, g5, g6, g7⟩ := H.2 _ n3
      have hnX := hX.2.1 _ n1 (by omega)
      have t2 : mi_sA σ2 10 (mi_sA σ2 15 i) = mi_sA σ0 10 (mi_sA σ2 15 i) := E.1.2.1 10 _ (by decide)
      have rt : mi_sA σ 12 (mi_sA σ2 15 i) = mi_sA σ2 15 i := hnX.2.1.trans ((E.1.2.1 12 _ (by decide)).trans g2)
      have kN : ∀ k, 0 ≤ k → k < 3 → 0 ≤ tw_N σ (mi_sA σ2 15 i) k ∧ tw_N σ (mi_sA σ2 15 i) k < 512 := fun k k0 k1 => by
        obtain ⟨q1, q2⟩ := cp_kid (x := 0) E Z H J hi0 hi k0 k1
        unfold tw_N
        rw [q1]
        rcases q2 with ⟨w1, -⟩ | ⟨w1, ⟨j, w2, w3⟩, -⟩
        · rw [if_pos w1]; omega
        · rw [if_neg w1, ← w3]
          have := (J.2.2.2.1.2 _ ⟨j, w2, rfl⟩).1
          omega
      have hn15 : mi_sA σ 15 i = mi_sA σ2 15 i := by rw [e15]
      refine mi_wp_p (pc' := 21) (st' := [.ref 9]) rfl rfl rfl ?_
      refine mi_wp_p (pc' := 22) (st' := [.ref 9, .ref 9]) rfl rfl rfl ?_
      refine ty_s_gr S rfl rfl rfl (List.mem_of_getElem? (i := 21) rfl) ?_
      refine mi_wp_p (pc' := 26) (st' := [.int (Int32.ofInt i), .ref 15, .ref 9]) rfl rfl rfl ?_
      refine ty_s_ald (x := mi_sA σ 15 i) S rfl rfl (List.mem_of_getElem? (i := 9) rfl) (by decide) (by omega) (by omega) rfl ?_
      refine mi_wp_p (pc' := 28) (st' := [.int (Int32.ofInt stay), .int (Int32.ofInt (mi_sA σ 15 i)), .ref 9]) rfl rfl rfl ?_
      refine ty_s_ci rfl rfl rfl rfl rfl rfl (mi_cal_v2 (np := 2) (args := [.ref 9, .int (Int32.ofInt (mi_sA σ 15 i)), .int (Int32.ofInt stay)]) (rest := []) rfl rfl rfl rfl rfl (Nat.le_of_ble_eq_true rfl) rfl rfl (Nat.le_of_ble_eq_true rfl) (ty_rcS S (List.mem_of_getElem? (i := 5) rfl))) (Nat.le_of_ble_eq_true rfl) S (hn15 ▸ ty_twinOf (d := d) (σ := σ) (nd := mi_sA σ2 15 i) (stay := stay) n1 (by omega) rt (by omega) hst (by rw [hnX.1, t2]; exact g3.1) (fun k k0 k1 => J.1.2.2.2.1 _ k n1 (by omega) k0 k1) (by omega) rfl (kN 0 (by omega) (by omega)) rfl (kN 1 (by omega) (by omega)) rfl (kN 2 (by omega) (by omega))) ?_
      intro x hh σ1 S f P
      rw [hn15] at P
      have F1 : sg_Af [10, 11, 12, 13, 14] [(9, 8)] σ σ1 := by
        rcases P with ⟨-, es, -⟩ | ⟨-, ⟨-, -, es⟩ | ⟨-, es⟩⟩
        · rw [es]; exact sg_Af_rf
        · rw [es]; exact ty_mk_F
        · rw [es]; exact ty_mk_F
      have e15b : mi_sA σ1 15 i = mi_sA σ2 15 i := (F1.2.1 15 i (by decide)).trans hn15
      have e10b : mi_sF σ1 9 10 = mi_sF σ 9 10 := F1.2.2 9 10 (by decide)
      obtain ⟨T2, J2⟩ := cp_next E Z H J hi0 hi (by omega) hu.2.2.2 (by omega) (fun n hn q => by have := hU n hn q; omega) P
      rw [← e15b] at J2
      replace fr := mi_Fm_tr fr f
      refine mi_wp_p (pc' := 33) (l' := [(4, .int (Int32.ofInt x)), (3, .int (Int32.ofInt i)), (0, .ref 9), (1, .int (Int32.ofInt nd)), (2, .int (Int32.ofInt stay))]) (st' := []) rfl rfl rfl ?_
      refine mi_wp_p (pc' := 34) (st' := [.ref 9]) rfl rfl rfl ?_
      refine ty_s_gr S rfl rfl rfl (List.mem_of_getElem? (i := 20) rfl) ?_
      refine mi_wp_p (pc' := 38) (st' := [.ref 9, .ref 14]) rfl rfl rfl ?_
      refine ty_s_gr S rfl rfl rfl (List.mem_of_getElem? (i := 21) rfl) ?_
      refine mi_wp_p (pc' := 42) (st' := [.int (Int32.ofInt i), .ref 15, .ref 14]) rfl rfl rfl ?_
      refine ty_s_ald (x := mi_sA σ1 15 i) S rfl rfl (List.mem_of_getElem? (i := 9) rfl) (by decide) (by omega) (by omega) rfl ?_
      refine mi_wp_p (pc' := 45) (st' := [.int (Int32.ofInt x), .int (Int32.ofInt (mi_sA σ1 15 i)), .ref 14]) rfl rfl rfl ?_
      refine ty_s_ast S rfl rfl (List.mem_of_getElem? (i := 8) rfl) (by decide) (by decide) (by omega) (by omega) ?_
      intro h2 S f
      replace fr := mi_Fm_tr fr f
      refine mi_s_inc (l' := [(3, .int (Int32.ofInt (i + 1))), (4, .int (Int32.ofInt x)), (0, .ref 9), (1, .int (Int32.ofInt nd)), (2, .int (Int32.ofInt stay))]) rfl rfl rfl (by decide) rfl ?_
      refine mi_wp_p (pc' := 12) rfl rfl rfl ?_
      refine mi_wp_lw (l := [(3, .int (Int32.ofInt (i + 1))), (0, .ref 9), (1, .int (Int32.ofInt nd)), (2, .int (Int32.ofInt stay))]) (mi_lw_of (show List.Nodup [3, 0, 1, 2] by decide) ⟨rfl, rfl, rfl, rfl, trivial⟩) ?_
      exact ih _ (by omega) _ (i + 1) T2 rfl (by omega) (by omega) J2 _ S fr
theorem ty_copy {X : mi_X} {d : Nat} {σ : mi_Sg} {Sx : Int → Prop} {T : Int → tr} {nd stay : Int} (Z : ty_Z σ) (hr : mi_sF σ 9 11 < 100000000) (H : ty_T σ Sx T) (hz : 0 < nd) (h1 : nd < mi_sF σ 9 8) (hS0 : Sx (mi_sA σ 12 nd)) (hroom : mi_sF σ 9 8 + pz (T (mi_sA σ 12 nd)) ≤ 512) (hst : stay = 0 ∨ stay = 1) (hf : 0 ≤ mi_sF σ 9 9 ∧ mi_sF σ 9 9 ≤ mi_sF σ 9 8) (hU : ∀ n, Sx n → mi_sA σ 10 n = 3 → mi_sF σ 9 9 ≤ n) : ty_Ci X (d + 3) mi_M122 [(0, .ref 9), (1, .int (Int32.ofInt nd)), (2, .int (Int32.ofInt stay))] σ (cp_Q stay (mi_sA σ 12 nd) T σ) := by
  intro h S
  have fr := mi_Fm_rf h
  have hu := ty_H_u S
  obtain ⟨G1, B1⟩ := ty_b_G Z hr
  have hK := (ga_K_r S Z.2.1).1
  obtain ⟨l, hl, hx0, Hl, hls⟩ := ty_T_small H hS0
  refine mi_wp_p (pc' := 1) (st' := [.ref 9]) rfl rfl rfl ?_
  refine ty_s_cv rfl rfl rfl rfl rfl rfl (mi_cal_v2 (np := 0) (args := [.ref 9]) (rest := []) rfl rfl rfl rfl rfl (Nat.le_of_ble_eq_true rfl) rfl rfl (Nat.le_of_ble_eq_true rfl) (ty_rcS S (List.mem_of_getElem? (i := 5) rfl))) (Nat.le_of_ble_eq_true rfl) S ty_begin ?_
  intro hh σ1 S f P
  subst P
  change ty_H _ (ty_b σ) at S
  replace fr := mi_Fm_tr fr f
  refine mi_wp_p (pc' := 5) (st' := [.ref 9]) rfl rfl rfl ?_
  refine mi_wp_p (pc' := 6) (st' := [.int (Int32.ofInt nd), .ref 9]) rfl rfl rfl ?_
  refine ty_s_ci rfl rfl rfl rfl rfl rfl (mi_cal_v2 (np := 1) (args := [.ref 9, .int (Int32.ofInt nd)]) (rest := []) rfl rfl rfl rfl rfl (Nat.le_of_ble_eq_true rfl) rfl rfl (Nat.le_of_ble_eq_true rfl) (ty_rcS S (List.mem_of_getElem? (i := 5) rfl))) (Nat.le_of_ble_eq_true rfl) S (ty_gather (d := d + 1) (Sx := fun n => n ∈ l) G1 B1 (Int.le_of_lt hz) h1 (ty_T_S Hl) (fun _ => hx0)) ?_
  intro x hh σ2 S f P
  obtain ⟨F2, hx⟩ := P
  obtain ⟨ex, R⟩ := hx.resolve_right (fun q => q.2.1 _ (ty_T_z Hl))
  rw [ex]
  have E := ga_E_of (σ0 := σ) hK F2 R
  clear ex hx
  replace fr := mi_Fm_tr fr f
  refine mi_wp_p (pc' := 10) (st' := []) rfl rfl rfl ?_
  refine mi_wp_p (pc' := 11) (st' := [.int (Int32.ofInt 0)]) rfl rfl rfl ?_
  refine mi_wp_p (pc' := 12) (l' := [(3, .int (Int32.ofInt 0)), (0, .ref 9), (1, .int (Int32.ofInt nd)), (2, .int (Int32.ofInt stay))]) (st' := []) rfl rfl rfl ?_
  refine mi_wp_lw (l := [(3, .int (Int32.ofInt 0)), (0, .ref 9), (1, .int (Int32.ofInt nd)), (2, .int (Int32.ofInt stay))]) (mi_lw_of (show List.Nodup [3, 0, 1, 2] by decide) ⟨rfl, rfl, rfl, rfl, trivial⟩) ?_
  exact ty_copy_l E Z Hl hl hx0 hz h1 hroom hst hf (fun n hn => hU n (hls n hn).1) _ _ 0 T rfl (Int.le_refl _) (ga_E_g E (by omega)).1 (cp_J_0 E Z Hl) _ S fr
