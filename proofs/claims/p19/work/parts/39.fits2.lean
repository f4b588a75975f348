/-! ===== fits, the method (printed by wip/gen/p_fits2.py) ===== -/
theorem ty_H_f {h : mi_H} {σ : mi_Sg} (S : ty_H h σ) : 13 ≤ mi_sF σ 9 9 ∧ mi_sF σ 9 9 ≤ mi_sF σ 9 8 := by
  obtain ⟨e, L, t, S1, V⟩ := S
  exact ⟨V.2.2.2.2.2.1, V.2.2.2.2.1⟩
section FN
variable {Sx : Int → Prop} {T : Int → tr} {a b : Int} {σ0 σ σf : mi_Sg} {nd c w : Int}
theorem ft_no (H : ty_T σ0 Sx T) (J : ft_J Sx T a b σ0 σ nd c w) (Z : ty_Z σ0) (no : ∀ θ, fx (mi_sA σ0 10) θ → sb θ (T a) ≠ sb θ (T b)) : ft_Q Sx T a b σ0 0 σ := by
  have e11 := J.1.2.2 9 11 (by decide)
  exact ⟨sg_Af_w J.1 (by decide) (by decide), by omega, ft_Z J Z, J.2.2.2, J.2.2.1, ft_stay H J, Or.inl ⟨rfl, no⟩⟩
theorem ft_SK (H : ty_T σ0 Sx T) (Z : ty_Z σ0) (h00 : mi_sA σ0 12 0 = 0) (J : ft_J Sx T a b σ0 σ nd c w) : ∀ n k, Sx n → 0 < n → n < mi_sF σ 9 8 → 0 ≤ k → k < 3 → ty_K' σ n k ≠ 0 → Sx (ty_K' σ n k) := fun n k hn h0 h1 k0 k1 hk => by
  have g := H.2 n hn
  have e := ft_eK J Z h00 g.1.1 g.1.2 k0 k1
  rw [e] at hk ⊢
  rcases g.2.2.2.1 k k0 k1 with q | q
  · exact absurd (by rw [q]; exact J.2.1.2.2.2.2.2.2.1) hk
  · exact (J.2.1.1 _ q).1
theorem ft_no2 (H : ty_T σ0 Sx T) (Z : ty_Z σ0) (h00 : mi_sA σ0 12 0 = 0) (J : ft_J Sx T a b σ0 σ 0 c 0) (F2 : sg_Af [13, 14, 15, 16] [(9, 10)] (ty_b σ) σf) (no : ∀ sz, ¬ ga_z Sx (ty_K' (ty_b σ)) (mi_sF (ty_b σ) 9 8) sz) (sn : ∀ n, 0 ≤ n → n < mi_sF (ty_b σ) 9 8 → 0 ≤ mi_sA σf 13 n ∧ mi_sA σf 13 n ≤ 2 * mi_sF (ty_b σ) 9 11 + 1) (sn0 : mi_sA σf 13 0 = 0) : ft_Q Sx T a b σ0 0 σf := by
  have e11 := J.1.2.2 9 11 (by decide)
  have e8 := J.1.2.2 9 8 (by decide)
  have f8 : mi_sF σf 9 8 = mi_sF σ 9 8 := F2.2.2 9 8 (by decide)
  have f11 : mi_sF σf 9 11 = mi_sF σ 9 11 + 1 := F2.2.2 9 11 (by decide)
  have f12 : mi_sA σf 12 = mi_sA σ 12 := sg_Af_Ak F2 (by decide)
  have fA11 : mi_sA σf 11 = mi_sA σ 11 := sg_Af_Ak F2 (by decide)
  have f10 : mi_sA σf 10 = mi_sA σ 10 := sg_Af_Ak F2 (by decide)
  have Fb : sg_Af [13, 14, 15, 16] [(9, 10), (9, 11)] σ (ty_b σ) := sg_Af_F (sg_Af_F sg_Af_rf (by decide)) (by decide)
  have ZJ := ft_Z J Z
  refine ⟨sg_Af_tr (sg_Af_w J.1 (by decide) (by decide)) (sg_Af_tr (sg_Af_w Fb (by decide) (by decide)) (sg_Af_w F2 (by decide) (by decide))), by omega, ?_, fun n h0 h1 h2 => by rw [f12]; exact J.2.2.2 n h0 h1 h2, fun n h0 h1 => by rw [f12]; exact J.2.2.1 n h0 h1, fun n hn q => by rw [f12]; exact ft_stay H J n hn q, Or.inl ⟨rfl, fun θ h1 h2 => ?_⟩⟩
  · obtain ⟨z1, z2, z3, z4, z5⟩ := ZJ
    unfold ty_Z ty_k
    rw [f8, f11, fA11, f10]
    exact ⟨by omega, z2, sn, sn0, z5⟩
  · refine no (fun n => ns (sb θ (T n))) (fun n hn q0 q1 k k0 k1 hk => ?_)
    have g := H.2 n hn
    have e : ty_K' (ty_b σ) n k = mi_sA σ 12 (ty_K' σ0 n k) := ft_eK J Z h00 g.1.1 g.1.2 k0 k1
    rw [e] at hk ⊢
    have hk0 : ty_K' σ0 n k ≠ 0 := fun q => hk (by rw [q]; exact J.2.1.2.2.2.2.2.2.1)
    have hS := (g.2.2.2.1 k k0 k1).resolve_left hk0
    have hB := J.2.1.2.1 θ h1 h2 _ hS
    dsimp only
    rw [hB]
    have h3 : mi_sA σ0 10 n ≠ 3 := fun q => hk0 ((g.2.2.2.2.1 (Or.inl q)).2 k k0 k1)
    have h4 : mi_sA σ0 10 n ≠ 4 := fun q => hk0 ((g.2.2.2.2.1 (Or.inr q)).2 k k0 k1)
    rw [g.2.2.2.2.2.1 h3 h4, sb_tn]
    have := ns_tn (mi_sA σ0 10 n) (sb θ (T (ty_K' σ0 n 0))) (sb θ (T (ty_K' σ0 n 1))) (sb θ (T (ty_K' σ0 n 2)))
    obtain rfl | rfl | rfl : k = 0 ∨ k = 1 ∨ k = 2 := by omega
    · exact this.1
    · exact this.2.1
    · exact this.2.2
end FN
theorem ft_f11 {X : mi_X} {d : Nat} {h0 : mi_H} {Sx : Int → Prop} {T : Int → tr} {σ0 : mi_Sg} {na nb : Int} {σ : mi_Sg} {c : Int} (Q0 : ft_Q Sx T (mi_sA σ0 12 na) (mi_sA σ0 12 nb) σ0 0 σ) (c0 : 0 ≤ c) (c1 : c ≤ 1000) : ∀ h, ty_H h σ → mi_Fm h0 h → mi_wp X (d + 2) mi_M128 11 [(4, .int (Int32.ofInt (c))), (3, .int (Int32.ofInt (-1))), (0, .ref 9), (1, .int (Int32.ofInt na)), (2, .int (Int32.ofInt nb))] [] h 0 0 (fun z => ∃ v h' σ', z = (.inl v, h', 0, 0) ∧ ty_H h' σ' ∧ mi_Fm h0 h' ∧ ∃ x, v = some (.int (Int32.ofInt x)) ∧ ft_Q Sx T (mi_sA σ0 12 na) (mi_sA σ0 12 nb) σ0 x σ') := by
  intro h S fr
  have hu := ty_H_u S
  refine mi_wp_p (pc' := 13) (st' := [.int (Int32.ofInt c)]) rfl rfl rfl ?_
  refine mi_wp_p (pc' := 14) (st' := [.ref 9, .int (Int32.ofInt c)]) rfl rfl rfl ?_
  refine ty_s_gf (x := mi_sF σ 9 8) S rfl rfl rfl (List.mem_of_getElem? (i := 6) rfl) rfl ?_
  refine mi_s_if2 (t := 98) rfl rfl rfl (by unfold mi_R; omega) (by unfold mi_R; omega) ?_ ?_
  · intro (c1 : (mi_sF σ 9 8) ≤ c)
    refine mi_wp_p (pc' := 99) (st' := [.int (Int32.ofInt (-1))]) rfl rfl rfl ?_
    refine mi_s_if1 (t := 104) rfl rfl rfl (by unfold mi_R; omega) (fun hc_ => absurd (show ((-1) : Int) = 0 from hc_) (by omega)) (fun _ => ?_)
    refine mi_wp_p (pc' := 103) (st' := [.int (Int32.ofInt 0)]) rfl rfl rfl ?_
    exact ty_s_ret S fr rfl rfl rfl rfl ⟨_, rfl, Q0⟩
  · intro (c1 : ¬ ((mi_sF σ 9 8) ≤ c))
    refine mi_wp_p (pc' := 21) (st' := [.int (Int32.ofInt (-1))]) rfl rfl rfl ?_
    refine mi_s_if1 (t := 98) rfl rfl rfl (by unfold mi_R; omega) (fun _ => ?_) (fun hc_ => absurd (show ((-1) : Int) ≤ 0 by omega) hc_)
    refine mi_wp_p (pc' := 99) (st' := [.int (Int32.ofInt (-1))]) rfl rfl rfl ?_
    refine mi_s_if1 (t := 104) rfl rfl rfl (by unfold mi_R; omega) (fun hc_ => absurd (show ((-1) : Int) = 0 from hc_) (by omega)) (fun _ => ?_)
    refine mi_wp_p (pc' := 103) (st' := [.int (Int32.ofInt 0)]) rfl rfl rfl ?_
    exact ty_s_ret S fr rfl rfl rfl rfl ⟨_, rfl, Q0⟩
theorem ft_f46 {X : mi_X} {d : Nat} {h0 : mi_H} {Sx : Int → Prop} {T : Int → tr} {σ0 : mi_Sg} {na nb : Int} {σ : mi_Sg} {c k ot nd : Int} (Q0 : ft_Q Sx T (mi_sA σ0 12 na) (mi_sA σ0 12 nb) σ0 0 σ) (c0 : 0 ≤ c) (c1 : c ≤ 999) (k0 : 0 ≤ k) (k1 : k ≤ 3) : ∀ h, ty_H h σ → mi_Fm h0 h → mi_wp X (d + 2) mi_M128 46 [(7, .int (Int32.ofInt (k))), (3, .int (Int32.ofInt (-1))), (6, .int (Int32.ofInt ot)), (5, .int (Int32.ofInt nd)), (4, .int (Int32.ofInt c)), (0, .ref 9), (1, .int (Int32.ofInt na)), (2, .int (Int32.ofInt nb))] [] h 0 0 (fun z => ∃ v h' σ', z = (.inl v, h', 0, 0) ∧ ty_H h' σ' ∧ mi_Fm h0 h' ∧ ∃ x, v = some (.int (Int32.ofInt x)) ∧ ft_Q Sx T (mi_sA σ0 12 na) (mi_sA σ0 12 nb) σ0 x σ') := by
  intro h S fr
  refine mi_wp_p (pc' := 48) (st' := [.int (Int32.ofInt k)]) rfl rfl rfl ?_
  refine mi_wp_p (pc' := 49) (st' := [.int (Int32.ofInt 3), .int (Int32.ofInt k)]) rfl rfl rfl ?_
  refine mi_s_if2 (t := 92) rfl rfl rfl (by unfold mi_R; omega) (by unfold mi_R; omega) ?_ ?_
  · intro (c1 : 3 ≤ k)
    refine mi_s_inc (l' := [(4, .int (Int32.ofInt (c + 1))), (7, .int (Int32.ofInt k)), (3, .int (Int32.ofInt (-1))), (6, .int (Int32.ofInt ot)), (5, .int (Int32.ofInt nd)), (0, .ref 9), (1, .int (Int32.ofInt na)), (2, .int (Int32.ofInt nb))]) rfl rfl rfl (by decide) rfl ?_
    refine mi_wp_p (pc' := 11) rfl rfl rfl ?_
    refine mi_wp_lw (l := [(4, .int (Int32.ofInt (c + 1))), (3, .int (Int32.ofInt (-1))), (0, .ref 9), (1, .int (Int32.ofInt na)), (2, .int (Int32.ofInt nb))]) (mi_lw_of (show List.Nodup [4, 3, 0, 1, 2] by decide) ⟨rfl, rfl, rfl, rfl, rfl, trivial⟩) ?_
    exact ft_f11 Q0 (by omega) (by omega) _ S fr
  · intro (c1 : ¬ (3 ≤ k))
    refine mi_wp_p (pc' := 53) (st' := [.int (Int32.ofInt (-1))]) rfl rfl rfl ?_
    refine mi_s_if1 (t := 92) rfl rfl rfl (by unfold mi_R; omega) (fun _ => ?_) (fun hc_ => absurd (show ((-1) : Int) < 0 by omega) hc_)
    refine mi_s_inc (l' := [(4, .int (Int32.ofInt (c + 1))), (7, .int (Int32.ofInt k)), (3, .int (Int32.ofInt (-1))), (6, .int (Int32.ofInt ot)), (5, .int (Int32.ofInt nd)), (0, .ref 9), (1, .int (Int32.ofInt na)), (2, .int (Int32.ofInt nb))]) rfl rfl rfl (by decide) rfl ?_
    refine mi_wp_p (pc' := 11) rfl rfl rfl ?_
    refine mi_wp_lw (l := [(4, .int (Int32.ofInt (c + 1))), (3, .int (Int32.ofInt (-1))), (0, .ref 9), (1, .int (Int32.ofInt na)), (2, .int (Int32.ofInt nb))]) (mi_lw_of (show List.Nodup [4, 3, 0, 1, 2] by decide) ⟨rfl, rfl, rfl, rfl, rfl, trivial⟩) ?_
    exact ft_f11 Q0 (by omega) (by omega) _ S fr
theorem ft_jc {X : mi_X} {d : Nat} {h0 : mi_H} {Sx : Int → Prop} {T : Int → tr} {σ0 : mi_Sg} {na nb : Int} {σ : mi_Sg} {nd ot c k w : Int} (H : ty_T σ0 Sx T) (Z : ty_Z σ0) (hlo : ∀ n, Sx n → mi_sA σ0 10 n = 3 ∨ 5 ≤ mi_sA σ0 10 n → mi_sF σ0 9 9 ≤ n) (hf : 13 ≤ mi_sF σ0 9 9) (hu : 2 < mi_sF σ0 9 8 ∧ mi_sF σ0 9 8 ≤ 512) (h00 : mi_sA σ0 12 0 = 0) (hr : mi_sF σ0 9 11 < 100000000) (ha0 : 0 < na) (ha1 : na < mi_sF σ0 9 8) (hb0 : 0 < nb) (hb1 : nb < mi_sF σ0 9 8) (ha : Sx (mi_sA σ0 12 na)) (hb : Sx (mi_sA σ0 12 nb)) (n1 : Sx nd) (n2 : Sx ot) (n3 : mi_sA σ0 10 nd ≠ 3) (n4 : mi_sA σ0 10 nd ≠ 4) (n5 : mi_sA σ0 10 ot = mi_sA σ0 10 nd) (n6 : ot < nd) (n7 : ∀ θ, fx (mi_sA σ0 10) θ → sb θ (T (mi_sA σ0 12 na)) = sb θ (T (mi_sA σ0 12 nb)) → sb θ (T nd) = sb θ (T ot)) (J : ft_J Sx T (mi_sA σ0 12 na) (mi_sA σ0 12 nb) σ0 σ (nd) (c + 1) (w)) (k0 : 0 ≤ k) (k1 : k < 3) : ty_Ci X (d + 1) mi_M133 [(0, .ref 9), (1, .int (Int32.ofInt (mi_sA σ 11 ((nd * 3) + k)))), (2, .int (Int32.ofInt (mi_sA σ 11 ((ot * 3) + k)))), (3, .int (Int32.ofInt w))] σ (fun x σ1 => jn_P σ (mi_sA σ 12 (ty_K' σ0 nd k)) (mi_sA σ 12 (ty_K' σ0 ot k)) w x σ1) := by
  have gn := H.2 nd n1
  have go := H.2 ot n2
  have ZJ := ft_Z J Z
  have e8 := J.1.2.2 9 8 (by decide)
  have hcnt := ft_cnt J.2.1 (u := mi_sF σ0 9 8) (by omega) (fun n hn => (H.2 n hn).1)
  have c0 := J.2.1.2.2.2.2.2.1.1
  have hw : 0 ≤ w ∧ w < 512 := by omega
  have zn := ZJ.2.1 nd k gn.1.1 (by omega) k0 k1
  have zo := ZJ.2.1 ot k go.1.1 (by omega) k0 k1
  have eKn := ft_eK J Z h00 gn.1.1 gn.1.2 k0 k1
  have eKo := ft_eK J Z h00 go.1.1 go.1.2 k0 k1
  have hpq : ty_K' σ0 nd k = 0 ↔ ty_K' σ0 ot k = 0 := by rw [gn.2.2.2.2.2.2 k k0 k1, go.2.2.2.2.2.2 k k0 k1, n5]
  obtain ⟨s1, s2, s3⟩ := ft_sides H hlo hf J Z.2.2.2.2 (gn.2.2.2.1 k k0 k1) (go.2.2.2.1 k k0 k1) hpq
  obtain ⟨t1, t2, t3⟩ := ft_sides H hlo hf J Z.2.2.2.2 (go.2.2.2.1 k k0 k1) (gn.2.2.2.1 k k0 k1) hpq.symm
  rw [← eKn] at s1
  rw [← eKo] at t1
  rw [← eKn, ← eKo] at s2 s3 t2 ⊢
  exact ty_join (σ := σ) (a := mi_sA σ 11 (nd * 3 + k)) (b := mi_sA σ 11 (ot * 3 + k)) zn.1 zn.2 zo.1 zo.2 hw s1 t1 s2 (fun q => t2 (Ne.symm q)) s3
theorem ft_bk {X : mi_X} {d : Nat} {h0 : mi_H} {Sx : Int → Prop} {T : Int → tr} {σ0 : mi_Sg} {na nb : Int} {σ σ1 : mi_Sg} {nd ot c k w x : Int} (H : ty_T σ0 Sx T) (Z : ty_Z σ0) (hlo : ∀ n, Sx n → mi_sA σ0 10 n = 3 ∨ 5 ≤ mi_sA σ0 10 n → mi_sF σ0 9 9 ≤ n) (hf : 13 ≤ mi_sF σ0 9 9) (hu : 2 < mi_sF σ0 9 8 ∧ mi_sF σ0 9 8 ≤ 512) (h00 : mi_sA σ0 12 0 = 0) (hr : mi_sF σ0 9 11 < 100000000) (ha0 : 0 < na) (ha1 : na < mi_sF σ0 9 8) (hb0 : 0 < nb) (hb1 : nb < mi_sF σ0 9 8) (ha : Sx (mi_sA σ0 12 na)) (hb : Sx (mi_sA σ0 12 nb)) (n1 : Sx nd) (n2 : Sx ot) (n3 : mi_sA σ0 10 nd ≠ 3) (n4 : mi_sA σ0 10 nd ≠ 4) (n5 : mi_sA σ0 10 ot = mi_sA σ0 10 nd) (n6 : ot < nd) (n7 : ∀ θ, fx (mi_sA σ0 10) θ → sb θ (T (mi_sA σ0 12 na)) = sb θ (T (mi_sA σ0 12 nb)) → sb θ (T nd) = sb θ (T ot)) (J : ft_J Sx T (mi_sA σ0 12 na) (mi_sA σ0 12 nb) σ0 σ (nd) (c + 1) (w)) (k0 : 0 ≤ k) (k1 : k < 3) (e1 : mi_sA σ 12 ot = mi_sA σ 12 nd) (e2 : ∀ j, 0 ≤ j → j < k → mi_sA σ 12 (ty_K' σ0 nd j) = mi_sA σ 12 (ty_K' σ0 ot j)) (e3 : mi_sA σ 12 (mi_sA σ0 12 na) = mi_sA σ 12 (mi_sA σ0 12 nb)) (P : jn_P σ (mi_sA σ 12 (ty_K' σ0 nd k)) (mi_sA σ 12 (ty_K' σ0 ot k)) w x σ1) : (x = -1 ∧ ft_Q Sx T (mi_sA σ0 12 na) (mi_sA σ0 12 nb) σ0 0 σ1) ∨ (ft_J Sx T (mi_sA σ0 12 na) (mi_sA σ0 12 nb) σ0 σ1 (nd) (c + 1) (x) ∧ mi_sA σ1 12 ot = mi_sA σ1 12 nd ∧ (∀ j, 0 ≤ j → j < k + 1 → mi_sA σ1 12 (ty_K' σ0 nd j) = mi_sA σ1 12 (ty_K' σ0 ot j)) ∧ mi_sA σ1 12 (mi_sA σ0 12 na) = mi_sA σ1 12 (mi_sA σ0 12 nb)) := by
  have gn := H.2 nd n1
  have go := H.2 ot n2
  have hpq : ty_K' σ0 nd k = 0 ↔ ty_K' σ0 ot k = 0 := by rw [gn.2.2.2.2.2.2 k k0 k1, go.2.2.2.2.2.2 k k0 k1, n5]
  rcases ft_join H J (gn.2.2.2.1 k k0 k1) (go.2.2.2.1 k k0 k1) hpq (fun θ h1 h2 => ft_kids H n1 n2 n3 n4 n5.symm (n7 θ h1 h2) k0 k1) P with ⟨q1, q2, q3⟩ | ⟨q1, J2, q2, q3, q4⟩
  · obtain rfl := q2.symm
    exact Or.inl ⟨q1, ft_no H J Z q3⟩
  · refine Or.inr ⟨J2, q3 _ _ e1, fun j j0 j1 => ?_, q3 _ _ e3⟩
    by_cases e : j = k
    · rw [e]; exact q2
    · exact q3 _ _ (e2 j j0 (by omega))
theorem ft_in {X : mi_X} {d : Nat} {h0 : mi_H} {Sx : Int → Prop} {T : Int → tr} {σ0 : mi_Sg} {na nb : Int} {nd ot c : Int} (H : ty_T σ0 Sx T) (Z : ty_Z σ0) (hlo : ∀ n, Sx n → mi_sA σ0 10 n = 3 ∨ 5 ≤ mi_sA σ0 10 n → mi_sF σ0 9 9 ≤ n) (hf : 13 ≤ mi_sF σ0 9 9) (hu : 2 < mi_sF σ0 9 8 ∧ mi_sF σ0 9 8 ≤ 512) (h00 : mi_sA σ0 12 0 = 0) (hr : mi_sF σ0 9 11 < 100000000) (ha0 : 0 < na) (ha1 : na < mi_sF σ0 9 8) (hb0 : 0 < nb) (hb1 : nb < mi_sF σ0 9 8) (ha : Sx (mi_sA σ0 12 na)) (hb : Sx (mi_sA σ0 12 nb)) (n1 : Sx nd) (n2 : Sx ot) (n3 : mi_sA σ0 10 nd ≠ 3) (n4 : mi_sA σ0 10 nd ≠ 4) (n5 : mi_sA σ0 10 ot = mi_sA σ0 10 nd) (n6 : ot < nd) (n7 : ∀ θ, fx (mi_sA σ0 10) θ → sb θ (T (mi_sA σ0 12 na)) = sb θ (T (mi_sA σ0 12 nb)) → sb θ (T nd) = sb θ (T ot)) (hc0 : 0 ≤ c) (KX : ∀ (σ : mi_Sg) (w : Int), ft_J Sx T (mi_sA σ0 12 na) (mi_sA σ0 12 nb) σ0 σ (0) (c + 1) (w) → mi_sA σ 12 (mi_sA σ0 12 na) = mi_sA σ 12 (mi_sA σ0 12 nb) → ∀ h, ty_H h σ → mi_Fm h0 h → mi_wp X (d + 2) mi_M128 11 [(4, .int (Int32.ofInt (c + 1))), (3, .int (Int32.ofInt (w))), (0, .ref 9), (1, .int (Int32.ofInt na)), (2, .int (Int32.ofInt nb))] [] h 0 0 (fun z => ∃ v h' σ', z = (.inl v, h', 0, 0) ∧ ty_H h' σ' ∧ mi_Fm h0 h' ∧ ∃ x, v = some (.int (Int32.ofInt x)) ∧ ft_Q Sx T (mi_sA σ0 12 na) (mi_sA σ0 12 nb) σ0 x σ')) : ∀ (m : Nat) (σ : mi_Sg) (w k : Int), (3 - k).toNat = m → 0 ≤ k → k ≤ 3 → ft_J Sx T (mi_sA σ0 12 na) (mi_sA σ0 12 nb) σ0 σ (nd) (c + 1) (w) → mi_sA σ 12 ot = mi_sA σ 12 nd → (∀ j, 0 ≤ j → j < k → mi_sA σ 12 (ty_K' σ0 nd j) = mi_sA σ 12 (ty_K' σ0 ot j)) → mi_sA σ 12 (mi_sA σ0 12 na) = mi_sA σ 12 (mi_sA σ0 12 nb) → ∀ h, ty_H h σ → mi_Fm h0 h → mi_wp X (d + 2) mi_M128 46 [(7, .int (Int32.ofInt (k))), (3, .int (Int32.ofInt (w))), (6, .int (Int32.ofInt ot)), (5, .int (Int32.ofInt nd)), (4, .int (Int32.ofInt c)), (0, .ref 9), (1, .int (Int32.ofInt na)), (2, .int (Int32.ofInt nb))] [] h 0 0 (fun z => ∃ v h' σ', z = (.inl v, h', 0, 0) ∧ ty_H h' σ' ∧ mi_Fm h0 h' ∧ ∃ x, v = some (.int (Int32.ofInt x)) ∧ ft_Q Sx T (mi_sA σ0 12 na) (mi_sA σ0 12 nb) σ0 x σ') := by
  intro m
  induction m using Nat.strongRecOn with
  | ind m ih =>
    intro σ w k hm k0 k1 J e1 e2 e3 h S fr
    have hcnt := ft_cnt J.2.1 (u := mi_sF σ0 9 8) (by omega) (fun n hn => (H.2 n hn).1)
    have n3u := (H.2 nd n1).1
    have o3u := (H.2 ot n2).1
    refine mi_wp_p (pc' := 48) (st' := [.int (Int32.ofInt k)]) rfl rfl rfl ?_
    refine mi_wp_p (pc' := 49) (st' := [.int (Int32.ofInt 3), .int (Int32.ofInt k)]) rfl rfl rfl ?_
    refine mi_s_if2 (t := 92) rfl rfl rfl (by unfold mi_R; omega) (by unfold mi_R; omega) ?_ ?_
    · intro (c1 : 3 ≤ k)
      refine mi_s_inc (l' := [(4, .int (Int32.ofInt (c + 1))), (7, .int (Int32.ofInt k)), (3, .int (Int32.ofInt w)), (6, .int (Int32.ofInt ot)), (5, .int (Int32.ofInt nd)), (0, .ref 9), (1, .int (Int32.ofInt na)), (2, .int (Int32.ofInt nb))]) rfl rfl rfl (by decide) rfl ?_
      refine mi_wp_p (pc' := 11) rfl rfl rfl ?_
      refine mi_wp_lw (l := [(4, .int (Int32.ofInt (c + 1))), (3, .int (Int32.ofInt w)), (0, .ref 9), (1, .int (Int32.ofInt na)), (2, .int (Int32.ofInt nb))]) (mi_lw_of (show List.Nodup [4, 3, 0, 1, 2] by decide) ⟨rfl, rfl, rfl, rfl, rfl, trivial⟩) ?_
      obtain rfl : k = 3 := by omega
      exact KX σ w ⟨J.1, ft_done J.2.1 ⟨ot, n2, n6, e1, n5, e2⟩, J.2.2⟩ e3 _ S fr
    · intro (c1 : ¬ (3 ≤ k))
      refine mi_wp_p (pc' := 53) (st' := [.int (Int32.ofInt w)]) rfl rfl rfl ?_
      refine mi_s_if1 (t := 92) rfl rfl rfl (by unfold mi_R; omega) (fun hc_ => absurd (show w < 0 from hc_) (by omega)) (fun _ => ?_)
      have hk3 : k < 3 := by omega
      refine mi_wp_p (pc' := 57) (st' := [.ref 9]) rfl rfl rfl ?_
      refine mi_wp_p (pc' := 58) (st' := [.ref 9, .ref 9]) rfl rfl rfl ?_
      refine ty_s_gr S rfl rfl rfl (List.mem_of_getElem? (i := 17) rfl) ?_
      refine mi_wp_p (pc' := 63) (st' := [.int (Int32.ofInt nd), .ref 11, .ref 9]) rfl rfl rfl ?_
      refine mi_wp_p (pc' := 64) (st' := [.int (Int32.ofInt 3), .int (Int32.ofInt nd), .ref 11, .ref 9]) rfl rfl rfl ?_
      refine mi_s_mul rfl rfl ?_
      refine mi_wp_p (pc' := 67) (st' := [.int (Int32.ofInt k), .int (Int32.ofInt (nd * 3)), .ref 11, .ref 9]) rfl rfl rfl ?_
      refine mi_s_add rfl rfl ?_
      refine ty_s_ald (x := mi_sA σ 11 ((nd * 3) + k)) S rfl rfl (List.mem_of_getElem? (i := 5) rfl) (by decide) (by omega) (by omega) rfl ?_
      refine mi_wp_p (pc' := 70) (st' := [.ref 9, .int (Int32.ofInt (mi_sA σ 11 ((nd * 3) + k))), .ref 9]) rfl rfl rfl ?_
      refine ty_s_gr S rfl rfl rfl (List.mem_of_getElem? (i := 17) rfl) ?_
      refine mi_wp_p (pc' := 75) (st' := [.int (Int32.ofInt ot), .ref 11, .int (Int32.ofInt (mi_sA σ 11 ((nd * 3) + k))), .ref 9]) rfl rfl rfl ?_
      refine mi_wp_p (pc' := 76) (st' := [.int (Int32.ofInt 3), .int (Int32.ofInt ot), .ref 11, .int (Int32.ofInt (mi_sA σ 11 ((nd * 3) + k))), .ref 9]) rfl rfl rfl ?_
      refine mi_s_mul rfl rfl ?_
      refine mi_wp_p (pc' := 79) (st' := [.int (Int32.ofInt k), .int (Int32.ofInt (ot * 3)), .ref 11, .int (Int32.ofInt (mi_sA σ 11 ((nd * 3) + k))), .ref 9]) rfl rfl rfl ?_
      refine mi_s_add rfl rfl ?_
      refine ty_s_ald (x := mi_sA σ 11 ((ot * 3) + k)) S rfl rfl (List.mem_of_getElem? (i := 5) rfl) (by decide) (by omega) (by omega) rfl ?_
      refine mi_wp_p (pc' := 82) (st' := [.int (Int32.ofInt w), .int (Int32.ofInt (mi_sA σ 11 ((ot * 3) + k))), .int (Int32.ofInt (mi_sA σ 11 ((nd * 3) + k))), .ref 9]) rfl rfl rfl ?_
      refine ty_s_ci rfl rfl rfl rfl rfl rfl (mi_cal_v2 (np := 3) (args := [.ref 9, .int (Int32.ofInt (mi_sA σ 11 ((nd * 3) + k))), .int (Int32.ofInt (mi_sA σ 11 ((ot * 3) + k))), .int (Int32.ofInt w)]) (rest := []) rfl rfl rfl rfl rfl (Nat.le_of_ble_eq_true rfl) rfl rfl (Nat.le_of_ble_eq_true rfl) (ty_rcS S (List.mem_of_getElem? (i := 5) rfl))) (Nat.le_of_ble_eq_true rfl) S (ft_jc (h0 := h0) H Z hlo hf hu h00 hr ha0 ha1 hb0 hb1 ha hb n1 n2 n3 n4 n5 n6 n7 J k0 hk3) ?_
      intro x hh σ1 S f P
      replace fr := mi_Fm_tr fr f
      refine mi_wp_p (pc' := 86) (l' := [(3, .int (Int32.ofInt x)), (7, .int (Int32.ofInt k)), (6, .int (Int32.ofInt ot)), (5, .int (Int32.ofInt nd)), (4, .int (Int32.ofInt c)), (0, .ref 9), (1, .int (Int32.ofInt na)), (2, .int (Int32.ofInt nb))]) (st' := []) rfl rfl rfl ?_
      refine mi_s_inc (l' := [(7, .int (Int32.ofInt (k + 1))), (3, .int (Int32.ofInt x)), (6, .int (Int32.ofInt ot)), (5, .int (Int32.ofInt nd)), (4, .int (Int32.ofInt c)), (0, .ref 9), (1, .int (Int32.ofInt na)), (2, .int (Int32.ofInt nb))]) rfl rfl rfl (by decide) rfl ?_
      refine mi_wp_p (pc' := 46) rfl rfl rfl ?_
      refine mi_wp_lw (l := [(7, .int (Int32.ofInt (k + 1))), (3, .int (Int32.ofInt x)), (6, .int (Int32.ofInt ot)), (5, .int (Int32.ofInt nd)), (4, .int (Int32.ofInt c)), (0, .ref 9), (1, .int (Int32.ofInt na)), (2, .int (Int32.ofInt nb))]) (mi_lw_of (show List.Nodup [7, 3, 6, 5, 4, 0, 1, 2] by decide) ⟨rfl, rfl, rfl, rfl, rfl, rfl, rfl, rfl, trivial⟩) ?_
      rcases ft_bk (X := X) (d := d) (h0 := h0) H Z hlo hf hu h00 hr ha0 ha1 hb0 hb1 ha hb n1 n2 n3 n4 n5 n6 n7 J k0 hk3 e1 e2 e3 P with ⟨q1, Q0⟩ | ⟨J2, q1, q2, q3⟩
      · rw [q1]
        exact ft_f46 Q0 (by omega) (by omega) (by omega) (by omega) _ S fr
      · exact ih (3 - (k + 1)).toNat (by omega) σ1 x (k + 1) rfl (by omega) (by omega) J2 q1 q2 q3 _ S fr
theorem ft_out {X : mi_X} {d : Nat} {h0 : mi_H} {Sx : Int → Prop} {T : Int → tr} {σ0 : mi_Sg} {na nb : Int} (H : ty_T σ0 Sx T) (Z : ty_Z σ0) (hlo : ∀ n, Sx n → mi_sA σ0 10 n = 3 ∨ 5 ≤ mi_sA σ0 10 n → mi_sF σ0 9 9 ≤ n) (hf : 13 ≤ mi_sF σ0 9 9) (hu : 2 < mi_sF σ0 9 8 ∧ mi_sF σ0 9 8 ≤ 512) (h00 : mi_sA σ0 12 0 = 0) (hr : mi_sF σ0 9 11 < 100000000) (ha0 : 0 < na) (ha1 : na < mi_sF σ0 9 8) (hb0 : 0 < nb) (hb1 : nb < mi_sF σ0 9 8) (ha : Sx (mi_sA σ0 12 na)) (hb : Sx (mi_sA σ0 12 nb)) : ∀ (m : Nat) (σ : mi_Sg) (c w : Int), (mi_sF σ0 9 8 - c).toNat = m → ft_J Sx T (mi_sA σ0 12 na) (mi_sA σ0 12 nb) σ0 σ (0) (c) (w) → mi_sA σ 12 (mi_sA σ0 12 na) = mi_sA σ 12 (mi_sA σ0 12 nb) → ∀ h, ty_H h σ → mi_Fm h0 h → mi_wp X (d + 2) mi_M128 11 [(4, .int (Int32.ofInt (c))), (3, .int (Int32.ofInt (w))), (0, .ref 9), (1, .int (Int32.ofInt na)), (2, .int (Int32.ofInt nb))] [] h 0 0 (fun z => ∃ v h' σ', z = (.inl v, h', 0, 0) ∧ ty_H h' σ' ∧ mi_Fm h0 h' ∧ ∃ x, v = some (.int (Int32.ofInt x)) ∧ ft_Q Sx T (mi_sA σ0 12 na) (mi_sA σ0 12 nb) σ0 x σ') := by
  intro m
  induction m using Nat.strongRecOn with
  | ind m ih =>
    intro σ c w hm J e3 h S fr
    have hcnt := ft_cnt J.2.1 (u := mi_sF σ0 9 8) (by omega) (fun n hn => (H.2 n hn).1)
    have e8 := J.1.2.2 9 8 (by decide)
    have e11 := J.1.2.2 9 11 (by decide)
    refine mi_wp_p (pc' := 13) (st' := [.int (Int32.ofInt c)]) rfl rfl rfl ?_
    refine mi_wp_p (pc' := 14) (st' := [.ref 9, .int (Int32.ofInt c)]) rfl rfl rfl ?_
    refine ty_s_gf (x := mi_sF σ 9 8) S rfl rfl rfl (List.mem_of_getElem? (i := 6) rfl) rfl ?_
    refine mi_s_if2 (t := 98) rfl rfl rfl (by unfold mi_R; omega) (by unfold mi_R; omega) (fun hc_ => absurd (show (mi_sF σ 9 8) ≤ c from hc_) (by omega)) (fun _ => ?_)
    refine mi_wp_p (pc' := 21) (st' := [.int (Int32.ofInt w)]) rfl rfl rfl ?_
    refine mi_s_if1 (t := 98) rfl rfl rfl (by unfold mi_R; omega) ?_ ?_
    · intro (c1 : w ≤ 0)
      refine mi_wp_p (pc' := 99) (st' := [.int (Int32.ofInt w)]) rfl rfl rfl ?_
      refine mi_s_if1 (t := 104) rfl rfl rfl (by unfold mi_R; omega) (fun _ => ?_) (fun hc_ => absurd (show w = 0 by omega) hc_)
      obtain rfl : w = 0 := by omega
      have ZJ := ft_Z J Z
      obtain ⟨G1, B1⟩ := ty_b_G ZJ (by omega)
      have hK := (ga_K_r S ZJ.2.1).1
      have ea : mi_sA σ 12 na = mi_sA σ 12 (mi_sA σ0 12 na) := J.2.2.1 na ha0 ha1
      refine mi_wp_p (pc' := 105) (st' := [.ref 9]) rfl rfl rfl ?_
      refine ty_s_cv rfl rfl rfl rfl rfl rfl (mi_cal_v2 (np := 0) (args := [.ref 9]) (rest := []) rfl rfl rfl rfl rfl (Nat.le_of_ble_eq_true rfl) rfl rfl (Nat.le_of_ble_eq_true rfl) (ty_rcS S (List.mem_of_getElem? (i := 5) rfl))) (Nat.le_of_ble_eq_true rfl) S ty_begin ?_
      intro hh σ1 S f P
      subst P
      change ty_H _ (ty_b σ) at S
      replace fr := mi_Fm_tr fr f
      refine mi_wp_p (pc' := 109) (st' := [.ref 9]) rfl rfl rfl ?_
      refine mi_wp_p (pc' := 110) (st' := [.int (Int32.ofInt na), .ref 9]) rfl rfl rfl ?_
      refine ty_s_ci rfl rfl rfl rfl rfl rfl (mi_cal_v2 (np := 1) (args := [.ref 9, .int (Int32.ofInt na)]) (rest := []) rfl rfl rfl rfl rfl (Nat.le_of_ble_eq_true rfl) rfl rfl (Nat.le_of_ble_eq_true rfl) (ty_rcS S (List.mem_of_getElem? (i := 5) rfl))) (Nat.le_of_ble_eq_true rfl) S (ty_gather (d := d) (Sx := Sx) G1 B1 (Int.le_of_lt ha0) (by show na < mi_sF σ 9 8; omega) (fun n k hn q0 q1 k0 k1 hk => ft_SK H Z h00 J n k hn q0 q1 k0 k1 hk) (fun _ => by show Sx (mi_sA σ 12 na); rw [ea]; exact (J.2.1.1 _ ha).1)) ?_
      intro x hh σ2 S f P
      replace fr := mi_Fm_tr fr f
      obtain ⟨F2, hx⟩ := P
      rcases hx with ⟨ex, R⟩ | ⟨ex, no, sn, sn0⟩
      · subst ex
        have E := ga_E_of (σ0 := σ) hK F2 R
        change ga_E Sx (mi_sA σ 12 na) σ σ2 at E
        rw [ea] at E
        exact ty_s_ret S fr rfl rfl rfl rfl ⟨_, rfl, ft_fin (nda := na) H Z (by omega) h00 J e3 ha hb E⟩
      · subst ex
        exact ty_s_ret S fr rfl rfl rfl rfl ⟨_, rfl, ft_no2 H Z h00 J F2 no sn sn0⟩
    · intro (c1 : ¬ (w ≤ 0))
      have hw : 0 < w := by omega
      have I2 := ft_pop J.2.1 (ft_S0 H) hw
      have hE := J.2.1.2.2.2.2.1 (w - 1) (by omega) (by omega)
      rw [show w - 1 = w + -1 by omega] at I2 hE
      have gn := (H.2 _ hE.1).1
      have hu5 := hu.2
      refine mi_s_inc (l' := [(3, .int (Int32.ofInt (w + (-1)))), (4, .int (Int32.ofInt c)), (0, .ref 9), (1, .int (Int32.ofInt na)), (2, .int (Int32.ofInt nb))]) rfl rfl rfl (by decide) rfl ?_
      refine mi_wp_p (pc' := 28) (st' := [.ref 9]) rfl rfl rfl ?_
      refine ty_s_gr S rfl rfl rfl (List.mem_of_getElem? (i := 21) rfl) ?_
      refine mi_wp_p (pc' := 32) (st' := [.int (Int32.ofInt (w + (-1))), .ref 15]) rfl rfl rfl ?_
      refine ty_s_ald (x := mi_sA σ 15 (w + (-1))) S rfl rfl (List.mem_of_getElem? (i := 9) rfl) (by decide) (by omega) (by omega) rfl ?_
      refine mi_wp_p (pc' := 35) (l' := [(5, .int (Int32.ofInt (mi_sA σ 15 (w + (-1))))), (3, .int (Int32.ofInt (w + (-1)))), (4, .int (Int32.ofInt c)), (0, .ref 9), (1, .int (Int32.ofInt na)), (2, .int (Int32.ofInt nb))]) (st' := []) rfl rfl rfl ?_
      refine mi_wp_p (pc' := 36) (st' := [.ref 9]) rfl rfl rfl ?_
      refine mi_wp_p (pc' := 38) (st' := [.int (Int32.ofInt (mi_sA σ 15 (w + (-1)))), .ref 9]) rfl rfl rfl ?_
      refine ty_s_ci rfl rfl rfl rfl rfl rfl (mi_cal_v2 (np := 1) (args := [.ref 9, .int (Int32.ofInt (mi_sA σ 15 (w + (-1))))]) (rest := []) rfl rfl rfl rfl rfl (Nat.le_of_ble_eq_true rfl) rfl rfl (Nat.le_of_ble_eq_true rfl) (ty_rcS S (List.mem_of_getElem? (i := 5) rfl))) (Nat.le_of_ble_eq_true rfl) S (ty_find2 (by omega) (by omega)) ?_
      intro x hh σu S f P
      obtain ⟨e1, e2⟩ := P
      rw [e2] at S
      rw [e1]
      clear e1 e2
      replace fr := mi_Fm_tr fr f
      refine mi_wp_p (pc' := 43) (l' := [(6, .int (Int32.ofInt (mi_sA σ 12 (mi_sA σ 15 (w + (-1)))))), (5, .int (Int32.ofInt (mi_sA σ 15 (w + (-1))))), (3, .int (Int32.ofInt (w + (-1)))), (4, .int (Int32.ofInt c)), (0, .ref 9), (1, .int (Int32.ofInt na)), (2, .int (Int32.ofInt nb))]) (st' := []) rfl rfl rfl ?_
      refine mi_wp_p (pc' := 44) (st' := [.int (Int32.ofInt 0)]) rfl rfl rfl ?_
      refine mi_wp_p (pc' := 46) (l' := [(7, .int (Int32.ofInt 0)), (6, .int (Int32.ofInt (mi_sA σ 12 (mi_sA σ 15 (w + (-1)))))), (5, .int (Int32.ofInt (mi_sA σ 15 (w + (-1))))), (3, .int (Int32.ofInt (w + (-1)))), (4, .int (Int32.ofInt c)), (0, .ref 9), (1, .int (Int32.ofInt na)), (2, .int (Int32.ofInt nb))]) (st' := []) rfl rfl rfl ?_
      refine mi_wp_lw (l := [(7, .int (Int32.ofInt 0)), (3, .int (Int32.ofInt (w + -1))), (6, .int (Int32.ofInt (mi_sA σ 12 (mi_sA σ 15 (w + -1))))), (5, .int (Int32.ofInt (mi_sA σ 15 (w + -1)))), (4, .int (Int32.ofInt c)), (0, .ref 9), (1, .int (Int32.ofInt na)), (2, .int (Int32.ofInt nb))]) (mi_lw_of (show List.Nodup [7, 3, 6, 5, 4, 0, 1, 2] by decide) ⟨rfl, rfl, rfl, rfl, rfl, rfl, rfl, rfl, trivial⟩) ?_
      have iA := J.2.1.1 _ hE.1
      have iC := J.2.1.2.2.1 _ hE.1 hE.2.1
      refine ft_in H Z hlo hf hu h00 hr ha0 ha1 hb0 hb1 ha hb hE.1 iA.1 hE.2.1 (fun q => hE.2.2 (J.2.1.2.2.2.2.2.2.2 _ hE.1 q)) iC.1 (by have := hE.2.2; omega) (fun θ h1 h2 => (J.2.1.2.1 θ h1 h2 _ hE.1).symm) (by omega) (fun σ2 w2 J2 q1 h2 S2 f2 => ih _ ?_ σ2 (c + 1) w2 rfl J2 q1 h2 S2 f2) _ σ (w + -1) 0 rfl (by omega) (by omega) ⟨J.1, I2, J.2.2⟩ iA.2 (fun j j0 j1 => by omega) e3 _ S fr
      omega
theorem ty_fits {X : mi_X} {d : Nat} {σ0 : mi_Sg} {Sx : Int → Prop} {T : Int → tr} {na nb : Int} (H : ty_T σ0 Sx T) (Z : ty_Z σ0) (hlo : ∀ n, Sx n → mi_sA σ0 10 n = 3 ∨ 5 ≤ mi_sA σ0 10 n → mi_sF σ0 9 9 ≤ n) (hr : mi_sF σ0 9 11 < 100000000) (ha0 : 0 < na) (ha1 : na < mi_sF σ0 9 8) (hb0 : 0 < nb) (hb1 : nb < mi_sF σ0 9 8) (ha : Sx (mi_sA σ0 12 na)) (hb : Sx (mi_sA σ0 12 nb)) : ty_Ci X (d + 2) mi_M128 [(0, .ref 9), (1, .int (Int32.ofInt na)), (2, .int (Int32.ofInt nb))] σ0 (ft_Q Sx T (mi_sA σ0 12 na) (mi_sA σ0 12 nb) σ0) := by
  intro h S
  have fr := mi_Fm_rf h
  have hu := ty_H_u S
  have hf := (ty_H_f S).1
  have h00 := hu.2.2.2
  have J0 : ft_J Sx T (mi_sA σ0 12 na) (mi_sA σ0 12 nb) σ0 σ0 (0) (0) (0) := ⟨sg_Af_rf, ft_0 (fun n hn => ⟨ft_S0 H n hn, (H.2 n hn).2.1⟩) h00, fun n q0 q1 => (ty_H_r S q0 q1).2.2.symm, fun n q0 q1 _ => rfl⟩
  have ra := (H.2 _ ha).2.1
  have rb := (H.2 _ hb).2.1
  have ga := (H.2 _ ha).1
  have gb := (H.2 _ hb).1
  have sd := ft_sides H hlo hf J0 Z.2.2.2.2 (Or.inr ha) (Or.inr hb) ⟨fun q => by omega, fun q => by omega⟩
  have sd2 := ft_sides H hlo hf J0 Z.2.2.2.2 (Or.inr hb) (Or.inr ha) ⟨fun q => by omega, fun q => by omega⟩
  rw [ra, rb] at sd sd2
  refine mi_wp_p (pc' := 1) (st' := [.ref 9]) rfl rfl rfl ?_
  refine mi_wp_p (pc' := 2) (st' := [.int (Int32.ofInt na), .ref 9]) rfl rfl rfl ?_
  refine mi_wp_p (pc' := 3) (st' := [.int (Int32.ofInt nb), .int (Int32.ofInt na), .ref 9]) rfl rfl rfl ?_
  refine mi_wp_p (pc' := 4) (st' := [.int (Int32.ofInt 0), .int (Int32.ofInt nb), .int (Int32.ofInt na), .ref 9]) rfl rfl rfl ?_
  refine ty_s_ci rfl rfl rfl rfl rfl rfl (mi_cal_v2 (np := 3) (args := [.ref 9, .int (Int32.ofInt na), .int (Int32.ofInt nb), .int (Int32.ofInt 0)]) (rest := []) rfl rfl rfl rfl rfl (Nat.le_of_ble_eq_true rfl) rfl rfl (Nat.le_of_ble_eq_true rfl) (ty_rcS S (List.mem_of_getElem? (i := 5) rfl))) (Nat.le_of_ble_eq_true rfl) S (ty_join (σ := σ0) (a := na) (b := nb) (Int.le_of_lt ha0) ha1 (Int.le_of_lt hb0) hb1 (by omega) sd.1 sd2.1 sd.2.1 (fun q => sd2.2.1 (Ne.symm q)) sd.2.2) ?_
  intro x hh σ1 S f P
  have P' : jn_P σ0 (mi_sA σ0 12 (mi_sA σ0 12 na)) (mi_sA σ0 12 (mi_sA σ0 12 nb)) 0 x σ1 := by
    rw [ra, rb]
    exact P
  replace fr := mi_Fm_tr fr f
  refine mi_wp_p (pc' := 8) (l' := [(3, .int (Int32.ofInt x)), (0, .ref 9), (1, .int (Int32.ofInt na)), (2, .int (Int32.ofInt nb))]) (st' := []) rfl rfl rfl ?_
  refine mi_wp_p (pc' := 9) (st' := [.int (Int32.ofInt 0)]) rfl rfl rfl ?_
  refine mi_wp_p (pc' := 11) (l' := [(4, .int (Int32.ofInt 0)), (3, .int (Int32.ofInt x)), (0, .ref 9), (1, .int (Int32.ofInt na)), (2, .int (Int32.ofInt nb))]) (st' := []) rfl rfl rfl ?_
  refine mi_wp_lw (l := [(4, .int (Int32.ofInt 0)), (3, .int (Int32.ofInt x)), (0, .ref 9), (1, .int (Int32.ofInt na)), (2, .int (Int32.ofInt nb))]) (mi_lw_of (show List.Nodup [4, 3, 0, 1, 2] by decide) ⟨rfl, rfl, rfl, rfl, rfl, trivial⟩) ?_
  rcases ft_join H J0 (Or.inr ha) (Or.inr hb) ⟨fun q => by omega, fun q => by omega⟩ (fun θ h1 h2 => h2) P' with ⟨q1, q2, q3⟩ | ⟨q1, J2, q2, q3, q4⟩
  · rw [q1]
    obtain rfl := q2.symm
    exact ft_f11 (ft_no H J0 Z q3) (by omega) (by omega) _ S fr
  · exact ft_out H Z hlo hf ⟨hu.1, hu.2.1⟩ h00 hr ha0 ha1 hb0 hb1 ha hb _ σ1 0 x rfl J2 q2 _ S fr
