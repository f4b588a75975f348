/-! ===== markUnknown (printed by wip/gen/p_mark.py) ===== -/
/-- what markUnknown leaves -/
def mu_Q (Sx : Int → Prop) (x0 : Int) (σ0 σ : mi_Sg) : Prop := sg_Af [10, 13, 14, 15, 16] [(9, 10)] σ0 σ ∧ ga_S σ ∧ (∀ n, 0 < n → n < mi_sF σ0 9 8 → mi_sA σ 10 n = mi_sA σ0 10 n ∨ (mi_sA σ0 10 n = 3 ∧ mi_sA σ 10 n = 4 ∧ Sx n ∧ mi_sA σ0 13 n ≠ 2 * mi_sF σ0 9 11 + 1)) ∧ mi_sA σ 10 0 = mi_sA σ0 10 0 ∧ (x0 = 0 ∨ mi_sA σ 13 x0 = 2 * mi_sF σ0 9 11 + 1) ∧ (∀ n, 0 < n → n < mi_sF σ0 9 8 → mi_sA σ 13 n = 2 * mi_sF σ0 9 11 + 1 → mi_sA σ0 13 n = 2 * mi_sF σ0 9 11 + 1 ∨ mi_sA σ 10 n ≠ 3) ∧ (∀ n k, 0 < n → n < mi_sF σ0 9 8 → mi_sA σ 13 n = 2 * mi_sF σ0 9 11 + 1 → 0 ≤ k → k < 3 → ty_K' σ0 n k = 0 ∨ mi_sA σ 13 (ty_K' σ0 n k) = 2 * mi_sF σ0 9 11 + 1)
/-- inside its loop -/
def mu_L (f : Int) (σ2 σ : mi_Sg) (i : Int) : Prop := sg_Af [10] [] σ2 σ ∧ (∀ n, 0 < n → mi_sA σ 10 n = mi_sA σ2 10 n ∨ (mi_sA σ2 10 n = 3 ∧ mi_sA σ 10 n = 4 ∧ ∃ j, (f ≤ j ∧ j < i) ∧ mi_sA σ2 15 j = n)) ∧ mi_sA σ 10 0 = mi_sA σ2 10 0 ∧ ∀ j, f ≤ j → j < i → mi_sA σ 10 (mi_sA σ2 15 j) ≠ 3
theorem mu_L_0 {f : Int} {σ2 : mi_Sg} : mu_L f σ2 σ2 f := ⟨sg_Af_rf, fun n _ => Or.inl rfl, rfl, fun j a b => by omega⟩
theorem mu_L_no {f i : Int} {σ2 σ : mi_Sg} (Lp : mu_L f σ2 σ i) (hn : mi_sA σ 10 (mi_sA σ2 15 i) ≠ 3) : mu_L f σ2 σ (i + 1) := by
  obtain ⟨l1, l2, l3, l4⟩ := Lp
  refine ⟨l1, fun n h => ?_, l3, fun j a b => ?_⟩
  · rcases l2 n h with q | ⟨q1, q2, j, q3, q4⟩
    · exact Or.inl q
    · exact Or.inr ⟨q1, q2, j, by omega, q4⟩
  · by_cases e : j = i
    · rw [e]; exact hn
    · exact l4 j a (by omega)
theorem mu_L_set {f i : Int} {σ2 σ : mi_Sg} (Lp : mu_L f σ2 σ i) (hf : f ≤ i) (h0 : 0 < mi_sA σ2 15 i) (hn : mi_sA σ 10 (mi_sA σ2 15 i) = 3) : mu_L f σ2 (mi_uA σ 10 (mi_sA σ2 15 i) 4) (i + 1) := by
  obtain ⟨l1, l2, l3, l4⟩ := Lp
  have e10 : ∀ n, mi_sA (mi_uA σ 10 (mi_sA σ2 15 i) 4) 10 n = if n = mi_sA σ2 15 i then 4 else mi_sA σ 10 n := fun n => by simp [mi_AA]
  refine ⟨sg_Af_A l1 (by decide), fun n h => ?_, ?_, fun j a b => ?_⟩
  · rw [e10]
    by_cases e : n = mi_sA σ2 15 i
    · rw [if_pos e]
      refine Or.inr ⟨?_, rfl, i, by omega, e.symm⟩
      rw [e]
      rcases l2 _ h0 with q | ⟨q1, q2, -⟩
      · rw [← q]; exact hn
      · exact q1
    · rw [if_neg e]
      rcases l2 n h with q | ⟨q1, q2, j, q3, q4⟩
      · exact Or.inl q
      · exact Or.inr ⟨q1, q2, j, by omega, q4⟩
  · rw [e10, if_neg (by omega)]
    exact l3
  · rw [e10]
    by_cases e : mi_sA σ2 15 j = mi_sA σ2 15 i
    · rw [if_pos e]; omega
    · rw [if_neg e]
      exact l4 j a (by
        have : j ≠ i := fun q => e (by rw [q])
        omega)
theorem mu_end {Sx : Int → Prop} {x0 : Int} {σ0 σ2 σ : mi_Sg} (B0 : ga_S σ0) (hK : ∀ n k, 0 < n → n < mi_sF σ0 9 8 → 0 ≤ k → k < 3 → 0 ≤ ty_K' σ0 n k ∧ ty_K' σ0 n k < mi_sF σ0 9 8) (F2 : sg_Af [13, 14, 15, 16] [(9, 10)] σ0 σ2) (R : ga_R Sx x0 σ0 σ2) (Lp : mu_L (mi_sF σ0 9 10) σ2 σ (mi_sF σ2 9 10)) : mu_Q Sx x0 σ0 σ := by
  obtain ⟨l1, l2, l3, l4⟩ := Lp
  obtain ⟨⟨pos, g0, ⟨b1, b2, b3, b4⟩, hn⟩, r2, r3, r4, r5, r6⟩ := R
  obtain ⟨p0, g00, ⟨c1, c2, c3, c4⟩, hn0⟩ := B0
  have e8 : mi_sF σ2 9 8 = mi_sF σ0 9 8 := F2.2.2 9 8 (by decide)
  have e11 : mi_sF σ2 9 11 = mi_sF σ0 9 11 := F2.2.2 9 11 (by decide)
  have e10 : mi_sA σ2 10 = mi_sA σ0 10 := sg_Af_Ak F2 (by decide)
  have f13 : mi_sA σ 13 = mi_sA σ2 13 := sg_Af_Ak l1 (by decide)
  have f15 : mi_sA σ 15 = mi_sA σ2 15 := sg_Af_Ak l1 (by decide)
  have f12 : mi_sA σ 12 = mi_sA σ2 12 := sg_Af_Ak l1 (by decide)
  have f8 : mi_sF σ 9 8 = mi_sF σ2 9 8 := l1.2.2 9 8 (by decide)
  have f10 : mi_sF σ 9 10 = mi_sF σ2 9 10 := l1.2.2 9 10 (by decide)
  have f11 : mi_sF σ 9 11 = mi_sF σ2 9 11 := l1.2.2 9 11 (by decide)
  have eK : ty_K' σ = ty_K' σ2 := by
    funext n k
    unfold ty_K' ty_k
    rw [f12, sg_Af_Ak l1 (k := 11) (by decide)]
  have eK0 : ty_K' σ2 = ty_K' σ0 := by
    funext n k
    unfold ty_K' ty_k
    rw [sg_Af_Ak F2 (k := 12) (by decide), sg_Af_Ak F2 (k := 11) (by decide)]
  refine ⟨sg_Af_tr (sg_Af_w F2 (by decide) (by decide)) (sg_Af_w l1 (by decide) (by decide)), ⟨pos, ?_, ?_, ?_⟩, fun n h0 h1 => ?_, by rw [l3, e10], by rw [f13]; exact r5, fun n h0 h1 h2 => ?_, fun n k h0 h1 h2 k0 k1 => ?_⟩
  · rw [f10]; exact g0
  · rw [f12, f13, f15, eK, f8, f11, f10]
    exact ⟨b1, b2, b3, b4⟩
  · rw [f8, f13, f11]
    exact hn
  · rcases l2 n h0 with q | ⟨q1, q2, j, ⟨q3, q3b⟩, q4⟩
    · exact Or.inl (q.trans (by rw [e10]))
    · rw [e10] at q1
      have hS := r4 j q3 q3b
      rw [q4] at hS
      refine Or.inr ⟨q1, q2, hS, fun w => ?_⟩
      obtain ⟨v1, v2, -⟩ := c2 n h0 h1 w
      have t1 := r3 _ v1.1 v1.2
      have t2 := (b1 _ v1.1 (by omega)).2.2
      have t3 := (b1 j (by omega) q3b).2.2
      rw [t1, v2] at t2
      rw [q4] at t3
      omega
  · rw [f13, ← e11] at h2
    obtain ⟨v1, v2, -⟩ := b2 n h0 (by omega) h2
    by_cases e : pos n < mi_sF σ0 9 10
    · have t1 := r3 _ v1.1 e
      rw [v2] at t1
      have t2 := (c1 _ v1.1 e).2.1
      rw [← t1] at t2
      exact Or.inl t2
    · have := l4 _ (by omega) v1.2
      rw [v2] at this
      exact Or.inr this
  · rw [f13, ← e11] at h2
    obtain ⟨v1, v2, v3, v4⟩ := b2 n h0 (by omega) h2
    rw [f13, ← e11, ← eK0]
    rcases v4 k k0 k1 with q | ⟨q, -⟩
    · exact Or.inl q
    · exact Or.inr q
theorem mu_l {X : mi_X} {d : Nat} {h0 : mi_H} {Sx : Int → Prop} {T : Int → tr} {x0 : Int} {σ0 σ2 : mi_Sg} (B0 : ga_S σ0) (hK : ∀ n k, 0 < n → n < mi_sF σ0 9 8 → 0 ≤ k → k < 3 → 0 ≤ ty_K' σ0 n k ∧ ty_K' σ0 n k < mi_sF σ0 9 8) (F2 : sg_Af [13, 14, 15, 16] [(9, 10)] σ0 σ2) (R : ga_R Sx x0 σ0 σ2) (H : ty_T σ0 Sx T) : ∀ (m : Nat) (σ : mi_Sg) (i : Int), (mi_sF σ2 9 10 - i).toNat = m → mi_sF σ0 9 10 ≤ i → i ≤ mi_sF σ2 9 10 → mu_L (mi_sF σ0 9 10) σ2 σ i → ∀ h, ty_H h σ → mi_Fm h0 h → mi_wp X (d + 2) mi_M138 13 [(3, .int (Int32.ofInt i)), (0, .ref 9)] [] h 0 0 (fun z => ∃ v h' σ', z = (.inl v, h', 0, 0) ∧ ty_H h' σ' ∧ mi_Fm h0 h' ∧ v = none ∧ mu_Q Sx x0 σ0 σ') := by
  intro m
  induction m using Nat.strongRecOn with
  | ind m ih =>
    intro σ i hm hi0 hi1 J h S fr
    have hu := ty_H_u S
    have e10 := J.1.2.2 9 10 (by decide)
    have e15 : mi_sA σ 15 = mi_sA σ2 15 := sg_Af_Ak J.1 (by decide)
    have e8 : mi_sF σ 9 8 = mi_sF σ2 9 8 := J.1.2.2 9 8 (by decide)
    have e8b : mi_sF σ2 9 8 = mi_sF σ0 9 8 := F2.2.2 9 8 (by decide)
    have g0 := B0.choose_spec.1
    have hg : mi_sF σ2 9 10 ≤ mi_sF σ2 9 8 - 1 := by
      obtain ⟨pos, q0, ⟨b1, b2, b3, b4⟩, hn⟩ := R.1
      refine pg_1 (f := mi_sA σ2 15) (by omega) (fun j a b => (b1 j a b).1) (fun j k a b c e => ?_)
      have t1 := (b1 j a (by omega)).2.2
      have t2 := (b1 k (by omega) c).2.2
      rw [e] at t1
      omega
    refine mi_wp_p (pc' := 14) (st' := [.int (Int32.ofInt i)]) rfl rfl rfl ?_
    refine mi_wp_p (pc' := 15) (st' := [.ref 9, .int (Int32.ofInt i)]) rfl rfl rfl ?_
    refine ty_s_gf (x := mi_sF σ 9 10) S rfl rfl rfl (List.mem_of_getElem? (i := 8) rfl) rfl ?_
    refine mi_s_if2 (t := 54) rfl rfl rfl (by unfold mi_R; omega) (by unfold mi_R; omega) ?_ ?_
    · intro (c1 : (mi_sF σ 9 10) ≤ i)
      obtain rfl : i = mi_sF σ2 9 10 := by omega
      exact ty_s_ret S fr rfl rfl rfl rfl ⟨rfl, mu_end B0 hK F2 R J⟩
    · intro (c1 : ¬ ((mi_sF σ 9 10) ≤ i))
      have hi : i < mi_sF σ2 9 10 := by omega
      have n1 : 0 < mi_sA σ 15 i ∧ mi_sA σ 15 i < mi_sF σ0 9 8 := by
        obtain ⟨pos, q0, ⟨b1, b2, b3, b4⟩, hn⟩ := R.1
        have := (b1 i (by omega) hi).1
        rw [e15]
        omega
      have hS := R.2.2.2.1 i hi0 hi
      have ht := (H.2 _ hS).2.2.1.1
      have hT : 0 ≤ mi_sA σ 10 (mi_sA σ 15 i) ∧ mi_sA σ 10 (mi_sA σ 15 i) ≤ 100 := by
        rw [e15] at n1 ⊢
        rcases J.2.1 _ n1.1 with q | ⟨-, q, -⟩
        · have : mi_sA σ2 10 (mi_sA σ2 15 i) = mi_sA σ0 10 (mi_sA σ2 15 i) := F2.2.1 10 _ (by decide)
          rw [q, this]
          omega
        · omega
      clear hS ht
      refine mi_wp_p (pc' := 22) (st' := [.ref 9]) rfl rfl rfl ?_
      refine ty_s_gr S rfl rfl rfl (List.mem_of_getElem? (i := 16) rfl) ?_
      refine mi_wp_p (pc' := 26) (st' := [.ref 9, .ref 10]) rfl rfl rfl ?_
      refine ty_s_gr S rfl rfl rfl (List.mem_of_getElem? (i := 21) rfl) ?_
      refine mi_wp_p (pc' := 30) (st' := [.int (Int32.ofInt i), .ref 15, .ref 10]) rfl rfl rfl ?_
      refine ty_s_ald (x := mi_sA σ 15 i) S rfl rfl (List.mem_of_getElem? (i := 9) rfl) (by decide) (by omega) (by omega) rfl ?_
      refine ty_s_ald (x := mi_sA σ 10 (mi_sA σ 15 i)) S rfl rfl (List.mem_of_getElem? (i := 4) rfl) (by decide) (by omega) (by omega) rfl ?_
      refine mi_wp_p (pc' := 33) (st' := [.int (Int32.ofInt 3), .int (Int32.ofInt (mi_sA σ 10 (mi_sA σ 15 i)))]) rfl rfl rfl ?_
      refine mi_s_if2 (t := 48) rfl rfl rfl (by unfold mi_R; omega) (by unfold mi_R; omega) ?_ ?_
      · intro (c2 : (mi_sA σ 10 (mi_sA σ 15 i)) ≠ 3)
        refine mi_s_inc (l' := [(3, .int (Int32.ofInt (i + 1))), (0, .ref 9)]) rfl rfl rfl (by decide) rfl ?_
        refine mi_wp_p (pc' := 13) rfl rfl rfl ?_
        refine mi_wp_lw (l := [(3, .int (Int32.ofInt (i + 1))), (0, .ref 9)]) (mi_lw_of (show List.Nodup [3, 0] by decide) ⟨rfl, rfl, trivial⟩) ?_
        have J2 := mu_L_no J (by rw [← e15]; omega)
        exact ih _ (by omega) _ (i + 1) rfl (by omega) (by omega) J2 _ S fr
      · intro (c2 : ¬ ((mi_sA σ 10 (mi_sA σ 15 i)) ≠ 3))
        refine mi_wp_p (pc' := 37) (st' := [.ref 9]) rfl rfl rfl ?_
        refine ty_s_gr S rfl rfl rfl (List.mem_of_getElem? (i := 16) rfl) ?_
        refine mi_wp_p (pc' := 41) (st' := [.ref 9, .ref 10]) rfl rfl rfl ?_
        refine ty_s_gr S rfl rfl rfl (List.mem_of_getElem? (i := 21) rfl) ?_
        refine mi_wp_p (pc' := 45) (st' := [.int (Int32.ofInt i), .ref 15, .ref 10]) rfl rfl rfl ?_
        refine ty_s_ald (x := mi_sA σ 15 i) S rfl rfl (List.mem_of_getElem? (i := 9) rfl) (by decide) (by omega) (by omega) rfl ?_
        refine mi_wp_p (pc' := 47) (st' := [.int (Int32.ofInt 4), .int (Int32.ofInt (mi_sA σ 15 i)), .ref 10]) rfl rfl rfl ?_
        refine ty_s_ast S rfl rfl (List.mem_of_getElem? (i := 4) rfl) (by decide) (by decide) (by omega) (by omega) ?_
        intro h3 S f
        replace fr := mi_Fm_tr fr f
        refine mi_s_inc (l' := [(3, .int (Int32.ofInt (i + 1))), (0, .ref 9)]) rfl rfl rfl (by decide) rfl ?_
        refine mi_wp_p (pc' := 13) rfl rfl rfl ?_
        refine mi_wp_lw (l := [(3, .int (Int32.ofInt (i + 1))), (0, .ref 9)]) (mi_lw_of (show List.Nodup [3, 0] by decide) ⟨rfl, rfl, trivial⟩) ?_
        have J2 := mu_L_set J hi0 (by rw [← e15]; exact n1.1) (by rw [← e15]; omega)
        rw [← e15] at J2
        exact ih _ (by omega) _ (i + 1) rfl (by omega) (by omega) J2 _ S fr
theorem ty_markUnknown {X : mi_X} {d : Nat} {σ : mi_Sg} {Sx : Int → Prop} {T : Int → tr} {nd : Int} (G : ty_G σ) (B : ga_S σ) (H : ty_T σ Sx T) (hz : 0 ≤ nd) (h1 : nd < mi_sF σ 9 8) (hS0 : mi_sA σ 12 nd ≠ 0 → Sx (mi_sA σ 12 nd)) : ty_Cv X (d + 2) mi_M138 [(0, .ref 9), (1, .int (Int32.ofInt nd))] σ (fun σ' => mu_Q Sx (mi_sA σ 12 nd) σ σ') := by
  intro h S
  have fr := mi_Fm_rf h
  have hK := (ga_K_r S G.2).1
  refine mi_wp_p (pc' := 1) (st' := [.ref 9]) rfl rfl rfl ?_
  refine ty_s_gf (x := mi_sF σ 9 10) S rfl rfl rfl (List.mem_of_getElem? (i := 8) rfl) rfl ?_
  refine mi_wp_p (pc' := 5) (l' := [(2, .int (Int32.ofInt (mi_sF σ 9 10))), (0, .ref 9), (1, .int (Int32.ofInt nd))]) (st' := []) rfl rfl rfl ?_
  refine mi_wp_p (pc' := 6) (st' := [.ref 9]) rfl rfl rfl ?_
  refine mi_wp_p (pc' := 7) (st' := [.int (Int32.ofInt nd), .ref 9]) rfl rfl rfl ?_
  refine ty_s_ci rfl rfl rfl rfl rfl rfl (mi_cal_v2 (np := 1) (args := [.ref 9, .int (Int32.ofInt nd)]) (rest := []) rfl rfl rfl rfl rfl (Nat.le_of_ble_eq_true rfl) rfl rfl (Nat.le_of_ble_eq_true rfl) (ty_rcS S (List.mem_of_getElem? (i := 5) rfl))) (Nat.le_of_ble_eq_true rfl) S (ty_gather (d := d) (Sx := Sx) G B hz h1 (ty_T_S H) hS0) ?_
  intro x hh σ2 S f P
  obtain ⟨F2, hx⟩ := P
  obtain ⟨ex, R⟩ := hx.resolve_right (fun q => q.2.1 _ (ty_T_z H))
  rw [ex]
  replace fr := mi_Fm_tr fr f
  refine mi_wp_p (pc' := 11) (st' := []) rfl rfl rfl ?_
  refine mi_wp_p (pc' := 12) (st' := [.int (Int32.ofInt (mi_sF σ 9 10))]) rfl rfl rfl ?_
  refine mi_wp_p (pc' := 13) (l' := [(3, .int (Int32.ofInt (mi_sF σ 9 10))), (2, .int (Int32.ofInt (mi_sF σ 9 10))), (0, .ref 9), (1, .int (Int32.ofInt nd))]) (st' := []) rfl rfl rfl ?_
  refine mi_wp_lw (l := [(3, .int (Int32.ofInt (mi_sF σ 9 10))), (0, .ref 9)]) (mi_lw_of (show List.Nodup [3, 0] by decide) ⟨rfl, rfl, trivial⟩) ?_
  exact mu_l B hK F2 R H _ _ (mi_sF σ 9 10) rfl (Int.le_refl _) R.2.1 mu_L_0 _ S fr
