/-! ===== what is gathered, and measures of it (printed by wip/gen/p_meas.py) ===== -/
theorem mi_s_mx {X : mi_X} {d : Nat} {M : mi_M} {pc idx c s : Nat} {l : mi_L} {r : List Value} {h : mi_H} {Q : mi_Z → Prop} {a b : Int} (ht : mi_lk (mi_th M) pc = none) (hi : mi_lk (mi_cd M) pc = some (.invokestatic idx, 3)) (hl : mi_lk (mi_ml (mi_ow M)) idx = some 1000002) (hc : mi_cat r ≤ 8) (ra : mi_R a) (rb : mi_R b) (kk : mi_wp X (d + 1) M (pc + 3) l (.int (Int32.ofInt (max a b)) :: r) h c s Q) : mi_wp X (d + 1) M pc l (.int (Int32.ofInt b) :: .int (Int32.ofInt a) :: r) h c s Q := by
  refine mi_wp_e (st' := .int (Int32.ofInt (max a b)) :: r) ht hi rfl rfl rfl ?_ kk
  show (if mi_cat r ≤ 8 then _ else none) = _
  rw [if_pos hc, hl]
  show some (Value.int (if Int32.ofInt a < Int32.ofInt b then Int32.ofInt b else Int32.ofInt a) :: r) = _
  by_cases e : a < b
  · rw [if_pos (by rw [Int32.lt_iff_toInt_lt, mi_tI_of ra, mi_tI_of rb]; exact e), Int.max_eq_right (Int.le_of_lt e)]
  · rw [if_neg (by rw [Int32.lt_iff_toInt_lt, mi_tI_of ra, mi_tI_of rb]; exact e), Int.max_eq_left (by omega)]
theorem mi_s_mn {X : mi_X} {d : Nat} {M : mi_M} {pc idx c s : Nat} {l : mi_L} {r : List Value} {h : mi_H} {Q : mi_Z → Prop} {a b : Int} (ht : mi_lk (mi_th M) pc = none) (hi : mi_lk (mi_cd M) pc = some (.invokestatic idx, 3)) (hl : mi_lk (mi_ml (mi_ow M)) idx = some 1000003) (hc : mi_cat r ≤ 8) (ra : mi_R a) (rb : mi_R b) (kk : mi_wp X (d + 1) M (pc + 3) l (.int (Int32.ofInt (min a b)) :: r) h c s Q) : mi_wp X (d + 1) M pc l (.int (Int32.ofInt b) :: .int (Int32.ofInt a) :: r) h c s Q := by
  refine mi_wp_e (st' := .int (Int32.ofInt (min a b)) :: r) ht hi rfl rfl rfl ?_ kk
  show (if mi_cat r ≤ 8 then _ else none) = _
  rw [if_pos hc, hl]
  show some (Value.int (if Int32.ofInt b < Int32.ofInt a then Int32.ofInt b else Int32.ofInt a) :: r) = _
  by_cases e : b < a
  · rw [if_pos (by rw [Int32.lt_iff_toInt_lt, mi_tI_of ra, mi_tI_of rb]; exact e), Int.min_eq_right (Int.le_of_lt e)]
  · rw [if_neg (by rw [Int32.lt_iff_toInt_lt, mi_tI_of ra, mi_tI_of rb]; exact e), Int.min_eq_left (by omega)]
/-- between the rounds -/
def ty_Z (σ : mi_Sg) : Prop := 0 ≤ mi_sF σ 9 11 ∧ (∀ n k, 0 < n → n < mi_sF σ 9 8 → 0 ≤ k → k < 3 → 0 ≤ ty_k σ n k ∧ ty_k σ n k < mi_sF σ 9 8) ∧ (∀ n, 0 ≤ n → n < mi_sF σ 9 8 → 0 ≤ mi_sA σ 13 n ∧ mi_sA σ 13 n ≤ 2 * mi_sF σ 9 11 + 1) ∧ mi_sA σ 13 0 = 0 ∧ mi_sA σ 10 0 = 0
/-- how many kids a node of a tag has -/
def ar (t : Int) : Int := if t = 5 ∨ t = 6 then 2 else if t = 9 then 1 else 0
theorem ar_0 {t : Int} (h : t ≤ 4) : ar t = 0 := by unfold ar; rw [if_neg (by omega), if_neg (by omega)]
/-- the nodes of S are trees, T tells them -/
def ty_T (σ : mi_Sg) (Sx : Int → Prop) (T : Int → tr) : Prop := T 0 = .num 0 ∧ ∀ n, Sx n → (0 < n ∧ n < mi_sF σ 9 8) ∧ mi_sA σ 12 n = n ∧ ((1 ≤ mi_sA σ 10 n ∧ mi_sA σ 10 n ≤ 100) ∧ (mi_sA σ 10 n ≤ 2 → n = mi_sA σ 10 n)) ∧ (∀ k, 0 ≤ k → k < 3 → ty_K' σ n k = 0 ∨ Sx (ty_K' σ n k)) ∧ (mi_sA σ 10 n = 3 ∨ mi_sA σ 10 n = 4 → T n = .var n.toNat ∧ ∀ k, 0 ≤ k → k < 3 → ty_K' σ n k = 0) ∧ (mi_sA σ 10 n ≠ 3 → mi_sA σ 10 n ≠ 4 → T n = tn (mi_sA σ 10 n) (T (ty_K' σ n 0)) (T (ty_K' σ n 1)) (T (ty_K' σ n 2))) ∧ (∀ k, 0 ≤ k → k < 3 → (ty_K' σ n k = 0 ↔ ar (mi_sA σ 10 n) ≤ k))
theorem ty_T_z {σ : mi_Sg} {Sx : Int → Prop} {T : Int → tr} (H : ty_T σ Sx T) : ga_z Sx (ty_K' σ) (mi_sF σ 9 8) (fun n => ns (T n)) := by
  intro n hn h0 h1 k k0 k1 hk
  obtain ⟨-, -, -, -, g5, g6, -⟩ := H.2 n hn
  by_cases e : mi_sA σ 10 n = 3 ∨ mi_sA σ 10 n = 4
  · exact absurd ((g5 e).2 k k0 k1) hk
  · have hT := g6 (fun q => e (Or.inl q)) (fun q => e (Or.inr q))
    have := ns_tn (mi_sA σ 10 n) (T (ty_K' σ n 0)) (T (ty_K' σ n 1)) (T (ty_K' σ n 2))
    rw [← hT] at this
    obtain rfl | rfl | rfl : k = 0 ∨ k = 1 ∨ k = 2 := by omega
    · exact this.1
    · exact this.2.1
    · exact this.2.2
theorem ty_T_S {σ : mi_Sg} {Sx : Int → Prop} {T : Int → tr} (H : ty_T σ Sx T) : ∀ n k, Sx n → 0 < n → n < mi_sF σ 9 8 → 0 ≤ k → k < 3 → ty_K' σ n k ≠ 0 → Sx (ty_K' σ n k) := fun n k hn _ _ k0 k1 hk => ((H.2 n hn).2.2.2.1 k k0 k1).resolve_left hk
/-- a round has been begun, and gathered what the root reaches -/
def ga_E (Sx : Int → Prop) (x0 : Int) (σ0 σ : mi_Sg) : Prop := sg_Af [13, 14, 15, 16] [(9, 10), (9, 11)] σ0 σ ∧ mi_sF σ 9 11 = mi_sF σ0 9 11 + 1 ∧ ga_S σ ∧ (∀ i, 0 ≤ i → i < mi_sF σ 9 10 → Sx (mi_sA σ 15 i)) ∧ (x0 = 0 ∨ mi_sA σ 13 x0 = 2 * mi_sF σ 9 11 + 1) ∧ ∀ n k, 0 < n → n < mi_sF σ0 9 8 → 0 ≤ k → k < 3 → 0 ≤ ty_K' σ0 n k ∧ ty_K' σ0 n k < mi_sF σ0 9 8
def ty_b (σ : mi_Sg) : mi_Sg := mi_uF (mi_uF σ 9 11 (mi_sF σ 9 11 + 1)) 9 10 0
theorem ty_b_G {σ : mi_Sg} (Z : ty_Z σ) (hr : mi_sF σ 9 11 < 100000000) : ty_G (ty_b σ) ∧ ga_S (ty_b σ) := by
  obtain ⟨z1, z2, z3, z4⟩ := Z
  have e11 : mi_sF (ty_b σ) 9 11 = mi_sF σ 9 11 + 1 := rfl
  refine ⟨⟨by omega, z2⟩, fun _ => 0, Int.le_refl _, ⟨fun i h0 h1 => ?_, fun n h0 h1 h2 => ?_, fun n h0 h1 => ?_, z4.1⟩, fun n h0 h1 h2 => ?_⟩
  · have : mi_sF (ty_b σ) 9 10 = 0 := rfl
    omega
  · have := z3 n (by omega) h1
    have e : mi_sA (ty_b σ) 13 n = mi_sA σ 13 n := rfl
    omega
  · have := z3 n h0 h1
    have e : mi_sA (ty_b σ) 13 n = mi_sA σ 13 n := rfl
    omega
  · have := z3 n (by omega) h1
    have e : mi_sA (ty_b σ) 13 n = mi_sA σ 13 n := rfl
    omega
theorem ga_E_of {Sx : Int → Prop} {x0 : Int} {σ0 σ : mi_Sg} (hK : ∀ n k, 0 < n → n < mi_sF σ0 9 8 → 0 ≤ k → k < 3 → 0 ≤ ty_K' σ0 n k ∧ ty_K' σ0 n k < mi_sF σ0 9 8) (F : sg_Af [13, 14, 15, 16] [(9, 10)] (ty_b σ0) σ) (R : ga_R Sx x0 (ty_b σ0) σ) : ga_E Sx x0 σ0 σ := by
  obtain ⟨r1, r2, r3, r4, r5, r6⟩ := R
  have e11 : mi_sF σ 9 11 = mi_sF σ0 9 11 + 1 := F.2.2 9 11 (by decide)
  refine ⟨?_, e11, r1, r4, ?_, hK⟩
  · refine sg_Af_tr (σ1 := ty_b σ0) ?_ (sg_Af_w F (by decide) (by decide))
    exact sg_Af_F (sg_Af_F sg_Af_rf (by decide)) (by decide)
  · rw [e11]
    exact r5
section GE
variable {Sx : Int → Prop} {x0 : Int} {σ0 σ : mi_Sg}
theorem ga_E_K (E : ga_E Sx x0 σ0 σ) : ty_K' σ = ty_K' σ0 := by
  funext n k
  unfold ty_K' ty_k
  rw [sg_Af_Ak E.1 (k := 12) (by decide), sg_Af_Ak E.1 (k := 11) (by decide)]
theorem ga_E_Z (E : ga_E Sx x0 σ0 σ) (Z : ty_Z σ0) : ty_Z σ := by
  obtain ⟨z1, z2, z3, z4⟩ := Z
  obtain ⟨F, e11, ⟨pos, g0, ⟨b1, b2, b3, b4⟩, hn⟩, hS, hx, hK⟩ := E
  have e8 := F.2.2 9 8 (by decide)
  refine ⟨by omega, fun n k h0 h1 k0 k1 => ?_, b3, b4, (F.2.1 10 0 (by decide)).trans z4.2⟩
  unfold ty_k
  rw [sg_Af_Ak F (k := 11) (by decide), e8]
  rw [e8] at h1
  exact z2 n k h0 h1 k0 k1
theorem ga_E_i (E : ga_E Sx x0 σ0 σ) {i : Int} (h0 : 0 ≤ i) (h1 : i < mi_sF σ 9 10) : (0 < mi_sA σ 15 i ∧ mi_sA σ 15 i < mi_sF σ0 9 8) ∧ Sx (mi_sA σ 15 i) ∧ ∀ k, 0 ≤ k → k < 3 → ty_K' σ0 (mi_sA σ 15 i) k = 0 ∨ ∃ j, (0 ≤ j ∧ j < i) ∧ mi_sA σ 15 j = ty_K' σ0 (mi_sA σ 15 i) k := by
  have eK := ga_E_K E
  obtain ⟨F, e11, ⟨pos, g0, ⟨b1, b2, b3, b4⟩, hn⟩, hS, hx, hK⟩ := E
  have e8 := F.2.2 9 8 (by decide)
  obtain ⟨q1, q2, q3⟩ := b1 i h0 h1
  obtain ⟨w1, w2, w3, w4⟩ := b2 _ q1.1 q1.2 q2
  rw [e8] at q1
  refine ⟨q1, hS i h0 h1, fun k k0 k1 => ?_⟩
  rcases w4 k k0 k1 with e | ⟨e1, e2⟩
  · rw [eK] at e
    exact Or.inl e
  · rw [eK] at e1 e2
    by_cases e0 : ty_K' σ0 (mi_sA σ 15 i) k = 0
    · exact Or.inl e0
    · have hk := hK _ k q1.1 q1.2 k0 k1
      obtain ⟨v1, v2, -⟩ := b2 _ (by omega) (by omega) e1
      exact Or.inr ⟨_, ⟨v1.1, by omega⟩, v2⟩
theorem ga_E_inj (E : ga_E Sx x0 σ0 σ) {i j : Int} (h0 : 0 ≤ i) (h1 : i < j) (h2 : j < mi_sF σ 9 10) : mi_sA σ 15 i ≠ mi_sA σ 15 j := by
  obtain ⟨F, e11, ⟨pos, g0, ⟨b1, b2, b3, b4⟩, hn⟩, hS, hx, hK⟩ := E
  obtain ⟨-, -, q3⟩ := b1 i h0 (by omega)
  obtain ⟨-, -, w3⟩ := b1 j (by omega) h2
  intro q
  rw [q] at q3
  omega
theorem ga_E_root (E : ga_E Sx x0 σ0 σ) (h0 : 0 < x0) (h1 : x0 < mi_sF σ0 9 8) : ∃ j, (0 ≤ j ∧ j < mi_sF σ 9 10) ∧ mi_sA σ 15 j = x0 := by
  obtain ⟨F, e11, ⟨pos, g0, ⟨b1, b2, b3, b4⟩, hn⟩, hS, hx, hK⟩ := E
  have e8 := F.2.2 9 8 (by decide)
  rcases hx with q | q
  · omega
  · obtain ⟨w1, w2, -⟩ := b2 _ h0 (by omega) q
    exact ⟨_, w1, w2⟩
theorem ga_E_g (E : ga_E Sx x0 σ0 σ) (hu : 0 < mi_sF σ0 9 8) : 0 ≤ mi_sF σ 9 10 ∧ mi_sF σ 9 10 ≤ mi_sF σ0 9 8 - 1 := by
  have E' := E
  obtain ⟨F, e11, ⟨pos, g0, ⟨b1, b2, b3, b4⟩, hn⟩, hS, hx, hK⟩ := E
  have e8 := F.2.2 9 8 (by decide)
  refine ⟨g0, pg_1 (f := mi_sA σ 15) hu (fun i a b => ?_) (fun i j a b c => ga_E_inj E' a b c)⟩
  have := (b1 i a b).1
  omega
end GE
/-- a loop over the order that writes f of each node into its note -/
def ga_L (f : Int → Int) (σ2 σ : mi_Sg) (i : Int) : Prop := sg_Af [14] [] σ2 σ ∧ ∀ j, 0 ≤ j → j < i → mi_sA σ 14 (mi_sA σ 15 j) = f (mi_sA σ 15 j)
section GL
variable {Sx : Int → Prop} {x0 : Int} {σ0 σ2 σ : mi_Sg} {f : Int → Int} {i : Int}
theorem ga_L_n (E : ga_E Sx x0 σ0 σ2) (Z : ty_Z σ0) (L : ga_L f σ2 σ i) (h0 : 0 ≤ i) (h1 : i < mi_sF σ 9 10) (hf : f 0 = 0) : (0 < mi_sA σ 15 i ∧ mi_sA σ 15 i < mi_sF σ 9 8) ∧ Sx (mi_sA σ 15 i) ∧ (∀ k, 0 ≤ k → k < 3 → 0 ≤ ty_k σ (mi_sA σ 15 i) k ∧ ty_k σ (mi_sA σ 15 i) k < mi_sF σ 9 8) ∧ ∀ k, 0 ≤ k → k < 3 → (if ty_K' σ (mi_sA σ 15 i) k = 0 then 0 else mi_sA σ 14 (ty_K' σ (mi_sA σ 15 i) k)) = f (ty_K' σ0 (mi_sA σ 15 i) k) := by
  have e15 := sg_Af_Ak L.1 (k := 15) (by decide)
  have e8 := L.1.2.2 9 8 (by decide)
  have e8' := E.1.2.2 9 8 (by decide)
  have e10 := L.1.2.2 9 10 (by decide)
  have eK : ty_K' σ = ty_K' σ0 := by
    rw [← ga_E_K E]
    funext n k
    unfold ty_K' ty_k
    rw [sg_Af_Ak L.1 (k := 12) (by decide), sg_Af_Ak L.1 (k := 11) (by decide)]
  rw [e10] at h1
  obtain ⟨q1, q2, q3⟩ := ga_E_i E h0 h1
  rw [e15, eK, e8, e8']
  refine ⟨q1, q2, fun k k0 k1 => ?_, fun k k0 k1 => ?_⟩
  · unfold ty_k
    rw [sg_Af_Ak L.1 (k := 11) (by decide), sg_Af_Ak E.1 (k := 11) (by decide)]
    exact Z.2.1 _ k q1.1 q1.2 k0 k1
  · rcases q3 k k0 k1 with e | ⟨j, ⟨j0, j1⟩, ej⟩
    · rw [if_pos e, e, hf]
    · have := L.2 j j0 j1
      rw [e15, ej] at this
      by_cases e : ty_K' σ0 (mi_sA σ2 15 i) k = 0
      · rw [if_pos e, e, hf]
      · rw [if_neg e, this]
theorem ga_L_set (E : ga_E Sx x0 σ0 σ2) (L : ga_L f σ2 σ i) (h0 : 0 ≤ i) (h1 : i < mi_sF σ 9 10) {v : Int} (hv : v = f (mi_sA σ 15 i)) : ga_L f σ2 (mi_uA σ 14 (mi_sA σ 15 i) v) (i + 1) := by
  refine ⟨sg_Af_A L.1 (by decide), fun j j0 j1 => ?_⟩
  have e15 := sg_Af_Ak L.1 (k := 15) (by decide)
  have e10 := L.1.2.2 9 10 (by decide)
  show mi_sA (mi_uA σ 14 (mi_sA σ 15 i) v) 14 (mi_sA σ 15 j) = f (mi_sA σ 15 j)
  rw [mi_AA]
  by_cases e : j = i
  · rw [e, if_pos ⟨rfl, rfl⟩]
    exact hv
  · have := ga_E_inj E j0 (show j < i by omega) (by omega)
    rw [← e15] at this
    rw [if_neg (fun q => this q.2)]
    exact L.2 j j0 (by omega)
theorem ga_L_root (E : ga_E Sx x0 σ0 σ2) (L : ga_L f σ2 σ i) (h1 : mi_sF σ 9 10 ≤ i) (h0 : 0 < x0) (h2 : x0 < mi_sF σ0 9 8) : mi_sA σ 14 x0 = f x0 := by
  have e15 := sg_Af_Ak L.1 (k := 15) (by decide)
  have e10 := L.1.2.2 9 10 (by decide)
  obtain ⟨j, ⟨j0, j1⟩, ej⟩ := ga_E_root E h0 h2
  have := L.2 j j0 (by omega)
  rw [e15, ej] at this
  exact this
/-- other notes leave what is gathered -/
theorem ga_L_E (E : ga_E Sx x0 σ0 σ2) (L : ga_L f σ2 σ i) : ga_E Sx x0 σ0 σ := by
  have e8 := L.1.2.2 9 8 (by decide)
  have e10 := L.1.2.2 9 10 (by decide)
  have e11 := L.1.2.2 9 11 (by decide)
  have e12 := sg_Af_Ak L.1 (k := 12) (by decide)
  have e13 := sg_Af_Ak L.1 (k := 13) (by decide)
  have e15 := sg_Af_Ak L.1 (k := 15) (by decide)
  have eK : ty_K' σ = ty_K' σ2 := by
    funext n k
    unfold ty_K' ty_k
    rw [sg_Af_Ak L.1 (k := 12) (by decide), sg_Af_Ak L.1 (k := 11) (by decide)]
  obtain ⟨F, f11, B, hS, hx, hK⟩ := E
  refine ⟨sg_Af_tr F (sg_Af_w L.1 (by decide) (by decide)), by rw [e11]; exact f11, ?_, ?_, ?_, hK⟩
  · unfold ga_S
    rw [e8, e10, e11, e12, e13, e15, eK]
    exact B
  · rw [e10, e15]
    exact hS
  · rw [e11, e13]
    exact hx
theorem ga_L_0 (E : ga_E Sx x0 σ0 σ2) : ga_L f σ2 σ2 0 := ⟨sg_Af_rf, fun j j0 j1 => by omega⟩
end GL
theorem pz_node {σ : mi_Sg} {Sx : Int → Prop} {T : Int → tr} (H : ty_T σ Sx T) {n : Int} (hn : Sx n) : pz (T n) = 1 + pz (T (ty_K' σ n 0)) + pz (T (ty_K' σ n 1)) + pz (T (ty_K' σ n 2)) := by
  obtain ⟨-, -, g3, -, g5, g6, -⟩ := H.2 n hn
  by_cases e : mi_sA σ 10 n = 3 ∨ mi_sA σ 10 n = 4
  · obtain ⟨q1, q2⟩ := g5 e
    rw [q1, q2 0 (by omega) (by omega), q2 1 (by omega) (by omega), q2 2 (by omega) (by omega), H.1]
    rfl
  · rw [g6 (fun q => e (Or.inl q)) (fun q => e (Or.inr q))]
    exact pz_tn (by omega) _ _ _
theorem rk_node {σ : mi_Sg} {Sx : Int → Prop} {T : Int → tr} (H : ty_T σ Sx T) {n : Int} (hn : Sx n) : rk (T n) = max (rk (T (ty_K' σ n 0)) + if mi_sA σ 10 n = 6 then 1 else 0) (max (rk (T (ty_K' σ n 1))) (rk (T (ty_K' σ n 2)))) := by
  obtain ⟨-, -, g3, -, g5, g6, -⟩ := H.2 n hn
  by_cases e : mi_sA σ 10 n = 3 ∨ mi_sA σ 10 n = 4
  · obtain ⟨q1, q2⟩ := g5 e
    rw [q1, q2 0 (by omega) (by omega), q2 1 (by omega) (by omega), q2 2 (by omega) (by omega), H.1, if_neg (by omega)]
    rfl
  · rw [g6 (fun q => e (Or.inl q)) (fun q => e (Or.inr q))]
    exact rk_tn (by omega) _ _ _
theorem rk_pz : ∀ e : tr, 0 ≤ rk e ∧ rk e ≤ pz e := by
  intro e
  induction e using rk.induct with
  | case1 t a b c iha ihb ihc =>
    have ha := pz_0 a
    have hb := pz_0 b
    have hc := pz_0 c
    have ht : (if t = 6 then (1 : Int) else 0) ≤ if t = 0 then 0 else 1 := by split <;> split <;> omega
    have ht0 : (0 : Int) ≤ if t = 6 then (1 : Int) else 0 := by split <;> omega
    rw [rk]
    simp only [pz]
    generalize (if t = 6 then (1 : Int) else 0) = q1 at *
    generalize (if t = 0 then (0 : Int) else 1) = q2 at *
    omega
  | case2 e h => 
    have := pz_0 e
    rw [rk]
    · omega
    · exact h
/-- what a measure leaves -/
def ty_M (σ0 σ : mi_Sg) : Prop := sg_Af [13, 14, 15, 16] [(9, 10), (9, 11)] σ0 σ ∧ mi_sF σ 9 11 = mi_sF σ0 9 11 + 1 ∧ ty_Z σ
theorem ga_E_M {Sx : Int → Prop} {x0 : Int} {σ0 σ : mi_Sg} (E : ga_E Sx x0 σ0 σ) (Z : ty_Z σ0) : ty_M σ0 σ := ⟨E.1, E.2.1, ga_E_Z E Z⟩
theorem ty_noteOfKid {X : mi_X} {σ : mi_Sg} {d : Nat} {nd w : Int} (h0 : 0 < nd) (h1 : nd < mi_sF σ 9 8) (w0 : 0 ≤ w) (w1 : w < 3) (hk : 0 ≤ ty_k σ nd w ∧ ty_k σ nd w < mi_sF σ 9 8) : ty_Ci X (d + 1) mi_M141 [(0, .ref 9), (1, .int (Int32.ofInt nd)), (2, .int (Int32.ofInt w))] σ (fun x σ' => x = (if ty_K' σ nd w = 0 then 0 else mi_sA σ 14 (ty_K' σ nd w)) ∧ σ' = σ) := by
  intro h S
  have fr := mi_Fm_rf h
  have hu := ty_H_u S
  unfold ty_K'
  unfold ty_k at *
  have hz := ty_H_z S hk.1 hk.2
  refine mi_wp_p (pc' := 1) (st' := [.ref 9]) rfl rfl rfl ?_
  refine mi_wp_p (pc' := 2) (st' := [.ref 9, .ref 9]) rfl rfl rfl ?_
  refine ty_s_gr S rfl rfl rfl (List.mem_of_getElem? (i := 17) rfl) ?_
  refine mi_wp_p (pc' := 6) (st' := [.int (Int32.ofInt nd), .ref 11, .ref 9]) rfl rfl rfl ?_
  refine mi_wp_p (pc' := 7) (st' := [.int (Int32.ofInt 3), .int (Int32.ofInt nd), .ref 11, .ref 9]) rfl rfl rfl ?_
  refine mi_s_mul rfl rfl ?_
  refine mi_wp_p (pc' := 9) (st' := [.int (Int32.ofInt w), .int (Int32.ofInt (nd * 3)), .ref 11, .ref 9]) rfl rfl rfl ?_
  refine mi_s_add rfl rfl ?_
  refine ty_s_ald (x := mi_sA σ 11 ((nd * 3) + w)) S rfl rfl (List.mem_of_getElem? (i := 5) rfl) (by decide) (by omega) (by omega) rfl ?_
  refine ty_s_ci rfl rfl rfl rfl rfl rfl (mi_cal_v2 (np := 1) (args := [.ref 9, .int (Int32.ofInt (mi_sA σ 11 ((nd * 3) + w)))]) (rest := []) rfl rfl rfl rfl rfl (Nat.le_of_ble_eq_true rfl) rfl rfl (Nat.le_of_ble_eq_true rfl) (ty_rcS S (List.mem_of_getElem? (i := 5) rfl))) (Nat.le_of_ble_eq_true rfl) S (ty_find2 hk.1 hk.2) ?_
  intro x hh σu S f P
  obtain ⟨e1, e2⟩ := P
  rw [e2] at S
  rw [e1]
  clear e1 e2
  replace fr := mi_Fm_tr fr f
  refine mi_wp_p (pc' := 15) (l' := [(3, .int (Int32.ofInt (mi_sA σ 12 (mi_sA σ 11 ((nd * 3) + w))))), (0, .ref 9), (1, .int (Int32.ofInt nd)), (2, .int (Int32.ofInt w))]) (st' := []) rfl rfl rfl ?_
  refine mi_wp_p (pc' := 16) (st' := [.int (Int32.ofInt (mi_sA σ 12 (mi_sA σ 11 ((nd * 3) + w))))]) rfl rfl rfl ?_
  refine mi_s_if1 (t := 23) rfl rfl rfl (by unfold mi_R; omega) ?_ ?_
  · intro (c1 : (mi_sA σ 12 (mi_sA σ 11 ((nd * 3) + w))) ≠ 0)
    refine mi_wp_p (pc' := 24) (st' := [.ref 9]) rfl rfl rfl ?_
    refine ty_s_gr S rfl rfl rfl (List.mem_of_getElem? (i := 20) rfl) ?_
    refine mi_wp_p (pc' := 28) (st' := [.int (Int32.ofInt (mi_sA σ 12 (mi_sA σ 11 ((nd * 3) + w)))), .ref 14]) rfl rfl rfl ?_
    refine ty_s_ald (x := mi_sA σ 14 (mi_sA σ 12 (mi_sA σ 11 ((nd * 3) + w)))) S rfl rfl (List.mem_of_getElem? (i := 8) rfl) (by decide) (by omega) (by omega) rfl ?_
    exact ty_s_ret S fr rfl rfl rfl (mi_ret_i rfl) ⟨_, rfl, (if_neg c1).symm, rfl⟩
  · intro (c1 : ¬ ((mi_sA σ 12 (mi_sA σ 11 ((nd * 3) + w))) ≠ 0))
    refine mi_wp_p (pc' := 20) (st' := [.int (Int32.ofInt 0)]) rfl rfl rfl ?_
    refine mi_wp_p (pc' := 29) rfl rfl rfl ?_
    exact ty_s_ret S fr rfl rfl rfl (mi_ret_i rfl) ⟨_, rfl, (if_pos (Decidable.of_not_not c1)).symm, rfl⟩
theorem ty_partsOf_l {X : mi_X} {d : Nat} {h0 : mi_H} {Sx : Int → Prop} {T : Int → tr} {σ0 σ2 : mi_Sg} {nd : Int} (E : ga_E Sx (mi_sA σ0 12 nd) σ0 σ2) (Z : ty_Z σ0) (H : ty_T σ0 Sx T) (hB : ∀ n, Sx n → pz (T n) ≤ 100000) (hz : 0 < nd) (h1 : nd < mi_sF σ0 9 8) : ∀ (m : Nat) (σ : mi_Sg) (i : Int), (mi_sF σ2 9 10 - i).toNat = m → 0 ≤ i → i ≤ mi_sF σ2 9 10 → ga_L (fun n => pz (T n)) σ2 σ i → ∀ h, ty_H h σ → mi_Fm h0 h → mi_wp X (d + 2) mi_M143 12 [(2, .int (Int32.ofInt i)), (0, .ref 9), (1, .int (Int32.ofInt nd))] [] h 0 0 (fun z => ∃ v h' σ', z = (.inl v, h', 0, 0) ∧ ty_H h' σ' ∧ mi_Fm h0 h' ∧ ∃ x, v = some (.int (Int32.ofInt x)) ∧ x = pz (T (mi_sA σ0 12 nd)) ∧ ty_M σ0 σ') := by
  intro m
  induction m using Nat.strongRecOn with
  | ind m ih =>
    intro σ i hm hi0 hi1 G h S fr
    have hu := ty_H_u S
    have e8 := G.1.2.2 9 8 (by decide)
    have e8b := E.1.2.2 9 8 (by decide)
    have e10 := G.1.2.2 9 10 (by decide)
    have hg := ga_E_g E (by omega)
    refine mi_wp_p (pc' := 13) (st' := [.int (Int32.ofInt i)]) rfl rfl rfl ?_
    refine mi_wp_p (pc' := 14) (st' := [.ref 9, .int (Int32.ofInt i)]) rfl rfl rfl ?_
    refine ty_s_gf (x := mi_sF σ 9 10) S rfl rfl rfl (List.mem_of_getElem? (i := 8) rfl) rfl ?_
    refine mi_s_if2 (t := 70) rfl rfl rfl (by unfold mi_R; omega) (by unfold mi_R; omega) ?_ ?_
    · intro (c1 : (mi_sF σ 9 10) ≤ i)
      refine mi_wp_p (pc' := 71) (st' := [.ref 9]) rfl rfl rfl ?_
      refine mi_wp_p (pc' := 72) (st' := [.int (Int32.ofInt nd), .ref 9]) rfl rfl rfl ?_
      refine ty_s_ci rfl rfl rfl rfl rfl rfl (mi_cal_v2 (np := 1) (args := [.ref 9, .int (Int32.ofInt nd)]) (rest := []) rfl rfl rfl rfl rfl (Nat.le_of_ble_eq_true rfl) rfl rfl (Nat.le_of_ble_eq_true rfl) (ty_rcS S (List.mem_of_getElem? (i := 5) rfl))) (Nat.le_of_ble_eq_true rfl) S (ty_noteOf (d := d) (σ := σ) (Int.le_of_lt hz) (by omega)) ?_
      intro x hh σu S f P
      obtain ⟨e1, e2⟩ := P
      rw [e2] at S
      rw [e1]
      clear e1 e2
      replace fr := mi_Fm_tr fr f
      have e12 : mi_sA σ 12 = mi_sA σ0 12 := sg_Af_Ak (sg_Af_tr E.1 (sg_Af_w G.1 (by decide) (by decide))) (by decide)
      have hr := ty_H_r S hz (by omega)
      rw [e12] at hr
      have hx := ga_L_root E G (by omega) hr.1 (by omega)
      exact ty_s_ret S fr rfl rfl rfl (mi_ret_i rfl) ⟨_, rfl, ⟨by rw [e12]; exact hx, ga_E_M (ga_L_E E G) Z⟩⟩
    · intro (c1 : ¬ ((mi_sF σ 9 10) ≤ i))
      have hi : i < mi_sF σ 9 10 := by omega
      obtain ⟨⟨n1, n2⟩, n3, n4, n5⟩ := ga_L_n E Z G hi0 hi (by simp only [H.1]; rfl)
      have hb := hB _ n3
      have hp := pz_node H n3
      have hrk := rk_node H n3
      have p0 := rk_pz (T (ty_K' σ0 (mi_sA σ 15 i) 0))
      have p1 := rk_pz (T (ty_K' σ0 (mi_sA σ 15 i) 1))
      have p2 := rk_pz (T (ty_K' σ0 (mi_sA σ 15 i) 2))
      have e10t := sg_Af_Ak (sg_Af_tr E.1 (sg_Af_w G.1 (by decide) (by decide))) (k := 10) (by decide)
      refine mi_wp_p (pc' := 21) (st' := [.ref 9]) rfl rfl rfl ?_
      refine ty_s_gr S rfl rfl rfl (List.mem_of_getElem? (i := 21) rfl) ?_
      refine mi_wp_p (pc' := 25) (st' := [.int (Int32.ofInt i), .ref 15]) rfl rfl rfl ?_
      refine ty_s_ald (x := mi_sA σ 15 i) S rfl rfl (List.mem_of_getElem? (i := 9) rfl) (by decide) (by omega) (by omega) rfl ?_
      refine mi_wp_p (pc' := 27) (l' := [(3, .int (Int32.ofInt (mi_sA σ 15 i))), (2, .int (Int32.ofInt i)), (0, .ref 9), (1, .int (Int32.ofInt nd))]) (st' := []) rfl rfl rfl ?_
      refine mi_wp_p (pc' := 28) (st' := [.int (Int32.ofInt 1)]) rfl rfl rfl ?_
      refine mi_wp_p (pc' := 29) (st' := [.ref 9, .int (Int32.ofInt 1)]) rfl rfl rfl ?_
      refine mi_wp_p (pc' := 30) (st' := [.int (Int32.ofInt (mi_sA σ 15 i)), .ref 9, .int (Int32.ofInt 1)]) rfl rfl rfl ?_
      refine mi_wp_p (pc' := 31) (st' := [.int (Int32.ofInt 0), .int (Int32.ofInt (mi_sA σ 15 i)), .ref 9, .int (Int32.ofInt 1)]) rfl rfl rfl ?_
      refine ty_s_ci rfl rfl rfl rfl rfl rfl (mi_cal_v2 (np := 2) (args := [.ref 9, .int (Int32.ofInt (mi_sA σ 15 i)), .int (Int32.ofInt 0)]) (rest := [.int (Int32.ofInt 1)]) rfl rfl rfl rfl rfl (Nat.le_of_ble_eq_true rfl) rfl rfl (Nat.le_of_ble_eq_true rfl) (ty_rcS S (List.mem_of_getElem? (i := 5) rfl))) (Nat.le_of_ble_eq_true rfl) S (ty_noteOfKid n1 n2 (by omega) (by omega) (n4 0 (by omega) (by omega))) ?_
      intro x hh σ1 S f P
      obtain ⟨q1, q2⟩ := P
      rw [n5 0 (by omega) (by omega)] at q1
      rw [q2] at S
      rw [q1]
      clear q1 q2
      replace fr := mi_Fm_tr fr f
      refine mi_s_add rfl rfl ?_
      refine mi_wp_p (pc' := 36) (st' := [.ref 9, .int (Int32.ofInt (1 + (pz (T (ty_K' σ0 (mi_sA σ 15 i) 0)))))]) rfl rfl rfl ?_
      refine mi_wp_p (pc' := 37) (st' := [.int (Int32.ofInt (mi_sA σ 15 i)), .ref 9, .int (Int32.ofInt (1 + (pz (T (ty_K' σ0 (mi_sA σ 15 i) 0)))))]) rfl rfl rfl ?_
      refine mi_wp_p (pc' := 38) (st' := [.int (Int32.ofInt 1), .int (Int32.ofInt (mi_sA σ 15 i)), .ref 9, .int (Int32.ofInt (1 + (pz (T (ty_K' σ0 (mi_sA σ 15 i) 0)))))]) rfl rfl rfl ?_
      refine ty_s_ci rfl rfl rfl rfl rfl rfl (mi_cal_v2 (np := 2) (args := [.ref 9, .int (Int32.ofInt (mi_sA σ 15 i)), .int (Int32.ofInt 1)]) (rest := [.int (Int32.ofInt (1 + (pz (T (ty_K' σ0 (mi_sA σ 15 i) 0)))))]) rfl rfl rfl rfl rfl (Nat.le_of_ble_eq_true rfl) rfl rfl (Nat.le_of_ble_eq_true rfl) (ty_rcS S (List.mem_of_getElem? (i := 5) rfl))) (Nat.le_of_ble_eq_true rfl) S (ty_noteOfKid n1 n2 (by omega) (by omega) (n4 1 (by omega) (by omega))) ?_
      intro x hh σ1 S f P
      obtain ⟨q1, q2⟩ := P
      rw [n5 1 (by omega) (by omega)] at q1
      rw [q2] at S
      rw [q1]
      clear q1 q2
      replace fr := mi_Fm_tr fr f
      refine mi_s_add rfl rfl ?_
      refine mi_wp_p (pc' := 43) (st' := [.ref 9, .int (Int32.ofInt ((1 + (pz (T (ty_K' σ0 (mi_sA σ 15 i) 0)))) + (pz (T (ty_K' σ0 (mi_sA σ 15 i) 1)))))]) rfl rfl rfl ?_
      refine mi_wp_p (pc' := 44) (st' := [.int (Int32.ofInt (mi_sA σ 15 i)), .ref 9, .int (Int32.ofInt ((1 + (pz (T (ty_K' σ0 (mi_sA σ 15 i) 0)))) + (pz (T (ty_K' σ0 (mi_sA σ 15 i) 1)))))]) rfl rfl rfl ?_
      refine mi_wp_p (pc' := 45) (st' := [.int (Int32.ofInt 2), .int (Int32.ofInt (mi_sA σ 15 i)), .ref 9, .int (Int32.ofInt ((1 + (pz (T (ty_K' σ0 (mi_sA σ 15 i) 0)))) + (pz (T (ty_K' σ0 (mi_sA σ 15 i) 1)))))]) rfl rfl rfl ?_
      refine ty_s_ci rfl rfl rfl rfl rfl rfl (mi_cal_v2 (np := 2) (args := [.ref 9, .int (Int32.ofInt (mi_sA σ 15 i)), .int (Int32.ofInt 2)]) (rest := [.int (Int32.ofInt ((1 + (pz (T (ty_K' σ0 (mi_sA σ 15 i) 0)))) + (pz (T (ty_K' σ0 (mi_sA σ 15 i) 1)))))]) rfl rfl rfl rfl rfl (Nat.le_of_ble_eq_true rfl) rfl rfl (Nat.le_of_ble_eq_true rfl) (ty_rcS S (List.mem_of_getElem? (i := 5) rfl))) (Nat.le_of_ble_eq_true rfl) S (ty_noteOfKid n1 n2 (by omega) (by omega) (n4 2 (by omega) (by omega))) ?_
      intro x hh σ1 S f P
      obtain ⟨q1, q2⟩ := P
      rw [n5 2 (by omega) (by omega)] at q1
      rw [q2] at S
      rw [q1]
      clear q1 q2
      replace fr := mi_Fm_tr fr f
      refine mi_s_add rfl rfl ?_
      refine mi_wp_p (pc' := 51) (l' := [(4, .int (Int32.ofInt (((1 + (pz (T (ty_K' σ0 (mi_sA σ 15 i) 0)))) + (pz (T (ty_K' σ0 (mi_sA σ 15 i) 1)))) + (pz (T (ty_K' σ0 (mi_sA σ 15 i) 2)))))), (3, .int (Int32.ofInt (mi_sA σ 15 i))), (2, .int (Int32.ofInt i)), (0, .ref 9), (1, .int (Int32.ofInt nd))]) (st' := []) rfl rfl rfl ?_
      refine mi_wp_p (pc' := 52) (st' := [.ref 9]) rfl rfl rfl ?_
      refine ty_s_gr S rfl rfl rfl (List.mem_of_getElem? (i := 20) rfl) ?_
      refine mi_wp_p (pc' := 56) (st' := [.int (Int32.ofInt (mi_sA σ 15 i)), .ref 14]) rfl rfl rfl ?_
      refine mi_wp_p (pc' := 58) (st' := [.int (Int32.ofInt (((1 + (pz (T (ty_K' σ0 (mi_sA σ 15 i) 0)))) + (pz (T (ty_K' σ0 (mi_sA σ 15 i) 1)))) + (pz (T (ty_K' σ0 (mi_sA σ 15 i) 2))))), .int (Int32.ofInt (mi_sA σ 15 i)), .ref 14]) rfl rfl rfl ?_
      refine mi_s_ldc (e := 1000000) rfl rfl rfl (by decide +kernel) ?_
      refine mi_s_mn rfl rfl rfl (Nat.le_of_ble_eq_true rfl) (by unfold mi_R; omega) (by unfold mi_R; omega) ?_
      refine ty_s_ast S rfl rfl (List.mem_of_getElem? (i := 8) rfl) (by decide) (by decide) (by omega) (by omega) ?_
      intro h2 S f
      replace fr := mi_Fm_tr fr f
      refine mi_s_inc (l' := [(2, .int (Int32.ofInt (i + 1))), (4, .int (Int32.ofInt (((1 + (pz (T (ty_K' σ0 (mi_sA σ 15 i) 0)))) + (pz (T (ty_K' σ0 (mi_sA σ 15 i) 1)))) + (pz (T (ty_K' σ0 (mi_sA σ 15 i) 2)))))), (3, .int (Int32.ofInt (mi_sA σ 15 i))), (0, .ref 9), (1, .int (Int32.ofInt nd))]) rfl rfl rfl (by decide) rfl ?_
      refine mi_wp_p (pc' := 12) rfl rfl rfl ?_
      refine mi_wp_lw (l := [(2, .int (Int32.ofInt (i + 1))), (0, .ref 9), (1, .int (Int32.ofInt nd))]) (mi_lw_of (show List.Nodup [2, 0, 1] by decide) ⟨rfl, rfl, rfl, trivial⟩) ?_
      refine ih _ ?_ _ (i + 1) rfl (by omega) (by omega) (ga_L_set E G hi0 hi ?_) _ S fr
      · omega
      · show min (((1 + pz (T (ty_K' σ0 (mi_sA σ 15 i) 0))) + pz (T (ty_K' σ0 (mi_sA σ 15 i) 1))) + pz (T (ty_K' σ0 (mi_sA σ 15 i) 2))) 1000000 = pz (T (mi_sA σ 15 i))
        omega
theorem ty_partsOf {X : mi_X} {d : Nat} {σ : mi_Sg} {Sx : Int → Prop} {T : Int → tr} {nd : Int} (Z : ty_Z σ) (hr : mi_sF σ 9 11 < 100000000) (H : ty_T σ Sx T) (hz : 0 < nd) (h1 : nd < mi_sF σ 9 8) (hS0 : Sx (mi_sA σ 12 nd)) (hB : ∀ n, Sx n → pz (T n) ≤ 100000) : ty_Ci X (d + 2) mi_M143 [(0, .ref 9), (1, .int (Int32.ofInt nd))] σ (fun x σ' => x = pz (T (mi_sA σ 12 nd)) ∧ ty_M σ σ') := by
  intro h S
  have fr := mi_Fm_rf h
  have hu := ty_H_u S
  obtain ⟨G1, B1⟩ := ty_b_G Z hr
  have hK := (ga_K_r S Z.2.1).1
  have hS0 := fun (_ : mi_sA σ 12 nd ≠ 0) => hS0
  refine mi_wp_p (pc' := 1) (st' := [.ref 9]) rfl rfl rfl ?_
  refine ty_s_cv rfl rfl rfl rfl rfl rfl (mi_cal_v2 (np := 0) (args := [.ref 9]) (rest := []) rfl rfl rfl rfl rfl (Nat.le_of_ble_eq_true rfl) rfl rfl (Nat.le_of_ble_eq_true rfl) (ty_rcS S (List.mem_of_getElem? (i := 5) rfl))) (Nat.le_of_ble_eq_true rfl) S ty_begin ?_
  intro hh σ1 S f P
  subst P
  change ty_H _ (ty_b σ) at S
  replace fr := mi_Fm_tr fr f
  refine mi_wp_p (pc' := 5) (st' := [.ref 9]) rfl rfl rfl ?_
  refine mi_wp_p (pc' := 6) (st' := [.int (Int32.ofInt nd), .ref 9]) rfl rfl rfl ?_
  refine ty_s_ci rfl rfl rfl rfl rfl rfl (mi_cal_v2 (np := 1) (args := [.ref 9, .int (Int32.ofInt nd)]) (rest := []) rfl rfl rfl rfl rfl (Nat.le_of_ble_eq_true rfl) rfl rfl (Nat.le_of_ble_eq_true rfl) (ty_rcS S (List.mem_of_getElem? (i := 5) rfl))) (Nat.le_of_ble_eq_true rfl) S (ty_gather (Sx := Sx) G1 B1 (Int.le_of_lt hz) h1 (ty_T_S H) hS0) ?_
  intro x hh σ2 S f P
  obtain ⟨F2, hx⟩ := P
  obtain ⟨ex, R⟩ := hx.resolve_right (fun q => q.2.1 _ (ty_T_z H))
  rw [ex]
  have E := ga_E_of (σ0 := σ) hK F2 R
  clear ex hx
  replace fr := mi_Fm_tr fr f
  refine mi_wp_p (pc' := 10) (st' := []) rfl rfl rfl ?_
  refine mi_wp_p (pc' := 11) (st' := [.int (Int32.ofInt 0)]) rfl rfl rfl ?_
  refine mi_wp_p (pc' := 12) (l' := [(2, .int (Int32.ofInt 0)), (0, .ref 9), (1, .int (Int32.ofInt nd))]) (st' := []) rfl rfl rfl ?_
  refine mi_wp_lw (l := [(2, .int (Int32.ofInt 0)), (0, .ref 9), (1, .int (Int32.ofInt nd))]) (mi_lw_of (show List.Nodup [2, 0, 1] by decide) ⟨rfl, rfl, rfl, trivial⟩) ?_
  exact ty_partsOf_l E Z H hB hz h1 _ _ 0 rfl (Int.le_refl _) (ga_E_g E (by omega)).1 (ga_L_0 E) _ S fr
theorem ty_rankOf_l {X : mi_X} {d : Nat} {h0 : mi_H} {Sx : Int → Prop} {T : Int → tr} {σ0 σ2 : mi_Sg} {nd : Int} (E : ga_E Sx (mi_sA σ0 12 nd) σ0 σ2) (Z : ty_Z σ0) (H : ty_T σ0 Sx T) (hB : ∀ n, Sx n → pz (T n) ≤ 100000) (hz : 0 < nd) (h1 : nd < mi_sF σ0 9 8) : ∀ (m : Nat) (σ : mi_Sg) (i : Int), (mi_sF σ2 9 10 - i).toNat = m → 0 ≤ i → i ≤ mi_sF σ2 9 10 → ga_L (fun n => rk (T n)) σ2 σ i → ∀ h, ty_H h σ → mi_Fm h0 h → mi_wp X (d + 2) mi_M144 12 [(2, .int (Int32.ofInt i)), (0, .ref 9), (1, .int (Int32.ofInt nd))] [] h 0 0 (fun z => ∃ v h' σ', z = (.inl v, h', 0, 0) ∧ ty_H h' σ' ∧ mi_Fm h0 h' ∧ ∃ x, v = some (.int (Int32.ofInt x)) ∧ x = rk (T (mi_sA σ0 12 nd)) ∧ ty_M σ0 σ') := by
  intro m
  induction m using Nat.strongRecOn with
  | ind m ih =>
    intro σ i hm hi0 hi1 G h S fr
    have hu := ty_H_u S
    have e8 := G.1.2.2 9 8 (by decide)
    have e8b := E.1.2.2 9 8 (by decide)
    have e10 := G.1.2.2 9 10 (by decide)
    have hg := ga_E_g E (by omega)
    refine mi_wp_p (pc' := 13) (st' := [.int (Int32.ofInt i)]) rfl rfl rfl ?_
    refine mi_wp_p (pc' := 14) (st' := [.ref 9, .int (Int32.ofInt i)]) rfl rfl rfl ?_
    refine ty_s_gf (x := mi_sF σ 9 10) S rfl rfl rfl (List.mem_of_getElem? (i := 8) rfl) rfl ?_
    refine mi_s_if2 (t := 88) rfl rfl rfl (by unfold mi_R; omega) (by unfold mi_R; omega) ?_ ?_
    · intro (c1 : (mi_sF σ 9 10) ≤ i)
      refine mi_wp_p (pc' := 89) (st' := [.ref 9]) rfl rfl rfl ?_
      refine mi_wp_p (pc' := 90) (st' := [.int (Int32.ofInt nd), .ref 9]) rfl rfl rfl ?_
      refine ty_s_ci rfl rfl rfl rfl rfl rfl (mi_cal_v2 (np := 1) (args := [.ref 9, .int (Int32.ofInt nd)]) (rest := []) rfl rfl rfl rfl rfl (Nat.le_of_ble_eq_true rfl) rfl rfl (Nat.le_of_ble_eq_true rfl) (ty_rcS S (List.mem_of_getElem? (i := 5) rfl))) (Nat.le_of_ble_eq_true rfl) S (ty_noteOf (d := d) (σ := σ) (Int.le_of_lt hz) (by omega)) ?_
      intro x hh σu S f P
      obtain ⟨e1, e2⟩ := P
      rw [e2] at S
      rw [e1]
      clear e1 e2
      replace fr := mi_Fm_tr fr f
      have e12 : mi_sA σ 12 = mi_sA σ0 12 := sg_Af_Ak (sg_Af_tr E.1 (sg_Af_w G.1 (by decide) (by decide))) (by decide)
      have hr := ty_H_r S hz (by omega)
      rw [e12] at hr
      have hx := ga_L_root E G (by omega) hr.1 (by omega)
      exact ty_s_ret S fr rfl rfl rfl (mi_ret_i rfl) ⟨_, rfl, ⟨by rw [e12]; exact hx, ga_E_M (ga_L_E E G) Z⟩⟩
    · intro (c1 : ¬ ((mi_sF σ 9 10) ≤ i))
      have hi : i < mi_sF σ 9 10 := by omega
      obtain ⟨⟨n1, n2⟩, n3, n4, n5⟩ := ga_L_n E Z G hi0 hi (by simp only [H.1]; rfl)
      have hb := hB _ n3
      have hp := pz_node H n3
      have hrk := rk_node H n3
      have p0 := rk_pz (T (ty_K' σ0 (mi_sA σ 15 i) 0))
      have p1 := rk_pz (T (ty_K' σ0 (mi_sA σ 15 i) 1))
      have p2 := rk_pz (T (ty_K' σ0 (mi_sA σ 15 i) 2))
      have e10t := sg_Af_Ak (sg_Af_tr E.1 (sg_Af_w G.1 (by decide) (by decide))) (k := 10) (by decide)
      have ht := (H.2 _ n3).2.2.1.1
      rw [← e10t] at ht hrk
      have hq := rk_pz (T (mi_sA σ 15 i))
      refine mi_wp_p (pc' := 21) (st' := [.ref 9]) rfl rfl rfl ?_
      refine ty_s_gr S rfl rfl rfl (List.mem_of_getElem? (i := 21) rfl) ?_
      refine mi_wp_p (pc' := 25) (st' := [.int (Int32.ofInt i), .ref 15]) rfl rfl rfl ?_
      refine ty_s_ald (x := mi_sA σ 15 i) S rfl rfl (List.mem_of_getElem? (i := 9) rfl) (by decide) (by omega) (by omega) rfl ?_
      refine mi_wp_p (pc' := 27) (l' := [(3, .int (Int32.ofInt (mi_sA σ 15 i))), (2, .int (Int32.ofInt i)), (0, .ref 9), (1, .int (Int32.ofInt nd))]) (st' := []) rfl rfl rfl ?_
      refine mi_wp_p (pc' := 28) (st' := [.ref 9]) rfl rfl rfl ?_
      refine mi_wp_p (pc' := 29) (st' := [.int (Int32.ofInt (mi_sA σ 15 i)), .ref 9]) rfl rfl rfl ?_
      refine mi_wp_p (pc' := 30) (st' := [.int (Int32.ofInt 0), .int (Int32.ofInt (mi_sA σ 15 i)), .ref 9]) rfl rfl rfl ?_
      refine ty_s_ci rfl rfl rfl rfl rfl rfl (mi_cal_v2 (np := 2) (args := [.ref 9, .int (Int32.ofInt (mi_sA σ 15 i)), .int (Int32.ofInt 0)]) (rest := []) rfl rfl rfl rfl rfl (Nat.le_of_ble_eq_true rfl) rfl rfl (Nat.le_of_ble_eq_true rfl) (ty_rcS S (List.mem_of_getElem? (i := 5) rfl))) (Nat.le_of_ble_eq_true rfl) S (ty_noteOfKid n1 n2 (by omega) (by omega) (n4 0 (by omega) (by omega))) ?_
      intro x hh σ1 S f P
      obtain ⟨q1, q2⟩ := P
      rw [n5 0 (by omega) (by omega)] at q1
      rw [q2] at S
      rw [q1]
      clear q1 q2
      replace fr := mi_Fm_tr fr f
      refine mi_wp_p (pc' := 34) (st' := [.ref 9, .int (Int32.ofInt (rk (T (ty_K' σ0 (mi_sA σ 15 i) 0))))]) rfl rfl rfl ?_
      refine ty_s_gr S rfl rfl rfl (List.mem_of_getElem? (i := 16) rfl) ?_
      refine mi_wp_p (pc' := 38) (st' := [.int (Int32.ofInt (mi_sA σ 15 i)), .ref 10, .int (Int32.ofInt (rk (T (ty_K' σ0 (mi_sA σ 15 i) 0))))]) rfl rfl rfl ?_
      refine ty_s_ald (x := mi_sA σ 10 (mi_sA σ 15 i)) S rfl rfl (List.mem_of_getElem? (i := 4) rfl) (by decide) (by omega) (by omega) rfl ?_
      refine mi_s_k (pc' := 41) (e := 6) rfl rfl rfl (by decide +kernel) ?_
      refine mi_s_if2 (t := 48) rfl rfl rfl (by unfold mi_R; omega) (by unfold mi_R; omega) ?_ ?_
      · intro (c2 : (mi_sA σ 10 (mi_sA σ 15 i)) ≠ 6)
        refine mi_wp_p (pc' := 49) (st' := [.int (Int32.ofInt 0), .int (Int32.ofInt (rk (T (ty_K' σ0 (mi_sA σ 15 i) 0))))]) rfl rfl rfl ?_
        refine mi_s_add rfl rfl ?_
        refine mi_wp_p (pc' := 52) (l' := [(4, .int (Int32.ofInt ((rk (T (ty_K' σ0 (mi_sA σ 15 i) 0))) + 0))), (3, .int (Int32.ofInt (mi_sA σ 15 i))), (2, .int (Int32.ofInt i)), (0, .ref 9), (1, .int (Int32.ofInt nd))]) (st' := []) rfl rfl rfl ?_
        refine mi_wp_p (pc' := 53) (st' := [.ref 9]) rfl rfl rfl ?_
        refine mi_wp_p (pc' := 54) (st' := [.int (Int32.ofInt (mi_sA σ 15 i)), .ref 9]) rfl rfl rfl ?_
        refine mi_wp_p (pc' := 55) (st' := [.int (Int32.ofInt 1), .int (Int32.ofInt (mi_sA σ 15 i)), .ref 9]) rfl rfl rfl ?_
        refine ty_s_ci rfl rfl rfl rfl rfl rfl (mi_cal_v2 (np := 2) (args := [.ref 9, .int (Int32.ofInt (mi_sA σ 15 i)), .int (Int32.ofInt 1)]) (rest := []) rfl rfl rfl rfl rfl (Nat.le_of_ble_eq_true rfl) rfl rfl (Nat.le_of_ble_eq_true rfl) (ty_rcS S (List.mem_of_getElem? (i := 5) rfl))) (Nat.le_of_ble_eq_true rfl) S (ty_noteOfKid n1 n2 (by omega) (by omega) (n4 1 (by omega) (by omega))) ?_
        intro x hh σ1 S f P
        obtain ⟨q1, q2⟩ := P
        rw [n5 1 (by omega) (by omega)] at q1
        rw [q2] at S
        rw [q1]
        clear q1 q2
        replace fr := mi_Fm_tr fr f
        refine mi_wp_p (pc' := 59) (st' := [.ref 9, .int (Int32.ofInt (rk (T (ty_K' σ0 (mi_sA σ 15 i) 1))))]) rfl rfl rfl ?_
        refine mi_wp_p (pc' := 60) (st' := [.int (Int32.ofInt (mi_sA σ 15 i)), .ref 9, .int (Int32.ofInt (rk (T (ty_K' σ0 (mi_sA σ 15 i) 1))))]) rfl rfl rfl ?_
        refine mi_wp_p (pc' := 61) (st' := [.int (Int32.ofInt 2), .int (Int32.ofInt (mi_sA σ 15 i)), .ref 9, .int (Int32.ofInt (rk (T (ty_K' σ0 (mi_sA σ 15 i) 1))))]) rfl rfl rfl ?_
        refine ty_s_ci rfl rfl rfl rfl rfl rfl (mi_cal_v2 (np := 2) (args := [.ref 9, .int (Int32.ofInt (mi_sA σ 15 i)), .int (Int32.ofInt 2)]) (rest := [.int (Int32.ofInt (rk (T (ty_K' σ0 (mi_sA σ 15 i) 1))))]) rfl rfl rfl rfl rfl (Nat.le_of_ble_eq_true rfl) rfl rfl (Nat.le_of_ble_eq_true rfl) (ty_rcS S (List.mem_of_getElem? (i := 5) rfl))) (Nat.le_of_ble_eq_true rfl) S (ty_noteOfKid n1 n2 (by omega) (by omega) (n4 2 (by omega) (by omega))) ?_
        intro x hh σ1 S f P
        obtain ⟨q1, q2⟩ := P
        rw [n5 2 (by omega) (by omega)] at q1
        rw [q2] at S
        rw [q1]
        clear q1 q2
        replace fr := mi_Fm_tr fr f
        refine mi_s_mx rfl rfl rfl (Nat.le_of_ble_eq_true rfl) (by unfold mi_R; omega) (by unfold mi_R; omega) ?_
        refine mi_wp_p (pc' := 69) (l' := [(5, .int (Int32.ofInt (max (rk (T (ty_K' σ0 (mi_sA σ 15 i) 1))) (rk (T (ty_K' σ0 (mi_sA σ 15 i) 2)))))), (4, .int (Int32.ofInt ((rk (T (ty_K' σ0 (mi_sA σ 15 i) 0))) + 0))), (3, .int (Int32.ofInt (mi_sA σ 15 i))), (2, .int (Int32.ofInt i)), (0, .ref 9), (1, .int (Int32.ofInt nd))]) (st' := []) rfl rfl rfl ?_
        refine mi_wp_p (pc' := 70) (st' := [.ref 9]) rfl rfl rfl ?_
        refine ty_s_gr S rfl rfl rfl (List.mem_of_getElem? (i := 20) rfl) ?_
        refine mi_wp_p (pc' := 74) (st' := [.int (Int32.ofInt (mi_sA σ 15 i)), .ref 14]) rfl rfl rfl ?_
        refine mi_wp_p (pc' := 76) (st' := [.int (Int32.ofInt ((rk (T (ty_K' σ0 (mi_sA σ 15 i) 0))) + 0)), .int (Int32.ofInt (mi_sA σ 15 i)), .ref 14]) rfl rfl rfl ?_
        refine mi_wp_p (pc' := 78) (st' := [.int (Int32.ofInt (max (rk (T (ty_K' σ0 (mi_sA σ 15 i) 1))) (rk (T (ty_K' σ0 (mi_sA σ 15 i) 2))))), .int (Int32.ofInt ((rk (T (ty_K' σ0 (mi_sA σ 15 i) 0))) + 0)), .int (Int32.ofInt (mi_sA σ 15 i)), .ref 14]) rfl rfl rfl ?_
        refine mi_s_mx rfl rfl rfl (Nat.le_of_ble_eq_true rfl) (by unfold mi_R; omega) (by unfold mi_R; omega) ?_
        refine ty_s_ast S rfl rfl (List.mem_of_getElem? (i := 8) rfl) (by decide) (by decide) (by omega) (by omega) ?_
        intro h3 S f
        replace fr := mi_Fm_tr fr f
        refine mi_s_inc (l' := [(2, .int (Int32.ofInt (i + 1))), (5, .int (Int32.ofInt (max (rk (T (ty_K' σ0 (mi_sA σ 15 i) 1))) (rk (T (ty_K' σ0 (mi_sA σ 15 i) 2)))))), (4, .int (Int32.ofInt ((rk (T (ty_K' σ0 (mi_sA σ 15 i) 0))) + 0))), (3, .int (Int32.ofInt (mi_sA σ 15 i))), (0, .ref 9), (1, .int (Int32.ofInt nd))]) rfl rfl rfl (by decide) rfl ?_
        refine mi_wp_p (pc' := 12) rfl rfl rfl ?_
        refine mi_wp_lw (l := [(2, .int (Int32.ofInt (i + 1))), (0, .ref 9), (1, .int (Int32.ofInt nd))]) (mi_lw_of (show List.Nodup [2, 0, 1] by decide) ⟨rfl, rfl, rfl, trivial⟩) ?_
        refine ih _ ?_ _ (i + 1) rfl (by omega) (by omega) (ga_L_set E G hi0 hi ?_) _ S fr
        · omega
        · show _ = rk (T (mi_sA σ 15 i))
          rw [hrk, if_neg (by omega)]
      · intro (c2 : ¬ ((mi_sA σ 10 (mi_sA σ 15 i)) ≠ 6))
        refine mi_wp_p (pc' := 45) (st' := [.int (Int32.ofInt 1), .int (Int32.ofInt (rk (T (ty_K' σ0 (mi_sA σ 15 i) 0))))]) rfl rfl rfl ?_
        refine mi_wp_p (pc' := 49) rfl rfl rfl ?_
        refine mi_s_add rfl rfl ?_
        refine mi_wp_p (pc' := 52) (l' := [(4, .int (Int32.ofInt ((rk (T (ty_K' σ0 (mi_sA σ 15 i) 0))) + 1))), (3, .int (Int32.ofInt (mi_sA σ 15 i))), (2, .int (Int32.ofInt i)), (0, .ref 9), (1, .int (Int32.ofInt nd))]) (st' := []) rfl rfl rfl ?_
        refine mi_wp_p (pc' := 53) (st' := [.ref 9]) rfl rfl rfl ?_
        refine mi_wp_p (pc' := 54) (st' := [.int (Int32.ofInt (mi_sA σ 15 i)), .ref 9]) rfl rfl rfl ?_
        refine mi_wp_p (pc' := 55) (st' := [.int (Int32.ofInt 1), .int (Int32.ofInt (mi_sA σ 15 i)), .ref 9]) rfl rfl rfl ?_
        refine ty_s_ci rfl rfl rfl rfl rfl rfl (mi_cal_v2 (np := 2) (args := [.ref 9, .int (Int32.ofInt (mi_sA σ 15 i)), .int (Int32.ofInt 1)]) (rest := []) rfl rfl rfl rfl rfl (Nat.le_of_ble_eq_true rfl) rfl rfl (Nat.le_of_ble_eq_true rfl) (ty_rcS S (List.mem_of_getElem? (i := 5) rfl))) (Nat.le_of_ble_eq_true rfl) S (ty_noteOfKid n1 n2 (by omega) (by omega) (n4 1 (by omega) (by omega))) ?_
        intro x hh σ1 S f P
        obtain ⟨q1, q2⟩ := P
        rw [n5 1 (by omega) (by omega)] at q1
        rw [q2] at S
        rw [q1]
        clear q1 q2
        replace fr := mi_Fm_tr fr f
        refine mi_wp_p (pc' := 59) (st' := [.ref 9, .int (Int32.ofInt (rk (T (ty_K' σ0 (mi_sA σ 15 i) 1))))]) rfl rfl rfl ?_
        refine mi_wp_p (pc' := 60) (st' := [.int (Int32.ofInt (mi_sA σ 15 i)), .ref 9, .int (Int32.ofInt (rk (T (ty_K' σ0 (mi_sA σ 15 i) 1))))]) rfl rfl rfl ?_
        refine mi_wp_p (pc' := 61) (st' := [.int (Int32.ofInt 2), .int (Int32.ofInt (mi_sA σ 15 i)), .ref 9, .int (Int32.ofInt (rk (T (ty_K' σ0 (mi_sA σ 15 i) 1))))]) rfl rfl rfl ?_
        refine ty_s_ci rfl rfl rfl rfl rfl rfl (mi_cal_v2 (np := 2) (args := [.ref 9, .int (Int32.ofInt (mi_sA σ 15 i)), .int (Int32.ofInt 2)]) (rest := [.int (Int32.ofInt (rk (T (ty_K' σ0 (mi_sA σ 15 i) 1))))]) rfl rfl rfl rfl rfl (Nat.le_of_ble_eq_true rfl) rfl rfl (Nat.le_of_ble_eq_true rfl) (ty_rcS S (List.mem_of_getElem? (i := 5) rfl))) (Nat.le_of_ble_eq_true rfl) S (ty_noteOfKid n1 n2 (by omega) (by omega) (n4 2 (by omega) (by omega))) ?_
        intro x hh σ1 S f P
        obtain ⟨q1, q2⟩ := P
        rw [n5 2 (by omega) (by omega)] at q1
        rw [q2] at S
        rw [q1]
        clear q1 q2
        replace fr := mi_Fm_tr fr f
        refine mi_s_mx rfl rfl rfl (Nat.le_of_ble_eq_true rfl) (by unfold mi_R; omega) (by unfold mi_R; omega) ?_
        refine mi_wp_p (pc' := 69) (l' := [(5, .int (Int32.ofInt (max (rk (T (ty_K' σ0 (mi_sA σ 15 i) 1))) (rk (T (ty_K' σ0 (mi_sA σ 15 i) 2)))))), (4, .int (Int32.ofInt ((rk (T (ty_K' σ0 (mi_sA σ 15 i) 0))) + 1))), (3, .int (Int32.ofInt (mi_sA σ 15 i))), (2, .int (Int32.ofInt i)), (0, .ref 9), (1, .int (Int32.ofInt nd))]) (st' := []) rfl rfl rfl ?_
        refine mi_wp_p (pc' := 70) (st' := [.ref 9]) rfl rfl rfl ?_
        refine ty_s_gr S rfl rfl rfl (List.mem_of_getElem? (i := 20) rfl) ?_
        refine mi_wp_p (pc' := 74) (st' := [.int (Int32.ofInt (mi_sA σ 15 i)), .ref 14]) rfl rfl rfl ?_
        refine mi_wp_p (pc' := 76) (st' := [.int (Int32.ofInt ((rk (T (ty_K' σ0 (mi_sA σ 15 i) 0))) + 1)), .int (Int32.ofInt (mi_sA σ 15 i)), .ref 14]) rfl rfl rfl ?_
        refine mi_wp_p (pc' := 78) (st' := [.int (Int32.ofInt (max (rk (T (ty_K' σ0 (mi_sA σ 15 i) 1))) (rk (T (ty_K' σ0 (mi_sA σ 15 i) 2))))), .int (Int32.ofInt ((rk (T (ty_K' σ0 (mi_sA σ 15 i) 0))) + 1)), .int (Int32.ofInt (mi_sA σ 15 i)), .ref 14]) rfl rfl rfl ?_
        refine mi_s_mx rfl rfl rfl (Nat.le_of_ble_eq_true rfl) (by unfold mi_R; omega) (by unfold mi_R; omega) ?_
        refine ty_s_ast S rfl rfl (List.mem_of_getElem? (i := 8) rfl) (by decide) (by decide) (by omega) (by omega) ?_
        intro h4 S f
        replace fr := mi_Fm_tr fr f
        refine mi_s_inc (l' := [(2, .int (Int32.ofInt (i + 1))), (5, .int (Int32.ofInt (max (rk (T (ty_K' σ0 (mi_sA σ 15 i) 1))) (rk (T (ty_K' σ0 (mi_sA σ 15 i) 2)))))), (4, .int (Int32.ofInt ((rk (T (ty_K' σ0 (mi_sA σ 15 i) 0))) + 1))), (3, .int (Int32.ofInt (mi_sA σ 15 i))), (0, .ref 9), (1, .int (Int32.ofInt nd))]) rfl rfl rfl (by decide) rfl ?_
        refine mi_wp_p (pc' := 12) rfl rfl rfl ?_
        refine mi_wp_lw (l := [(2, .int (Int32.ofInt (i + 1))), (0, .ref 9), (1, .int (Int32.ofInt nd))]) (mi_lw_of (show List.Nodup [2, 0, 1] by decide) ⟨rfl, rfl, rfl, trivial⟩) ?_
        refine ih _ ?_ _ (i + 1) rfl (by omega) (by omega) (ga_L_set E G hi0 hi ?_) _ S fr
        · omega
        · show _ = rk (T (mi_sA σ 15 i))
          rw [hrk, if_pos (by omega)]
theorem ty_rankOf {X : mi_X} {d : Nat} {σ : mi_Sg} {Sx : Int → Prop} {T : Int → tr} {nd : Int} (Z : ty_Z σ) (hr : mi_sF σ 9 11 < 100000000) (H : ty_T σ Sx T) (hz : 0 < nd) (h1 : nd < mi_sF σ 9 8) (hS0 : Sx (mi_sA σ 12 nd)) (hB : ∀ n, Sx n → pz (T n) ≤ 100000) : ty_Ci X (d + 2) mi_M144 [(0, .ref 9), (1, .int (Int32.ofInt nd))] σ (fun x σ' => x = rk (T (mi_sA σ 12 nd)) ∧ ty_M σ σ') := by
  intro h S
  have fr := mi_Fm_rf h
  have hu := ty_H_u S
  obtain ⟨G1, B1⟩ := ty_b_G Z hr
  have hK := (ga_K_r S Z.2.1).1
  have hS0 := fun (_ : mi_sA σ 12 nd ≠ 0) => hS0
  refine mi_wp_p (pc' := 1) (st' := [.ref 9]) rfl rfl rfl ?_
  refine ty_s_cv rfl rfl rfl rfl rfl rfl (mi_cal_v2 (np := 0) (args := [.ref 9]) (rest := []) rfl rfl rfl rfl rfl (Nat.le_of_ble_eq_true rfl) rfl rfl (Nat.le_of_ble_eq_true rfl) (ty_rcS S (List.mem_of_getElem? (i := 5) rfl))) (Nat.le_of_ble_eq_true rfl) S ty_begin ?_
  intro hh σ1 S f P
  subst P
  change ty_H _ (ty_b σ) at S
  replace fr := mi_Fm_tr fr f
  refine mi_wp_p (pc' := 5) (st' := [.ref 9]) rfl rfl rfl ?_
  refine mi_wp_p (pc' := 6) (st' := [.int (Int32.ofInt nd), .ref 9]) rfl rfl rfl ?_
  refine ty_s_ci rfl rfl rfl rfl rfl rfl (mi_cal_v2 (np := 1) (args := [.ref 9, .int (Int32.ofInt nd)]) (rest := []) rfl rfl rfl rfl rfl (Nat.le_of_ble_eq_true rfl) rfl rfl (Nat.le_of_ble_eq_true rfl) (ty_rcS S (List.mem_of_getElem? (i := 5) rfl))) (Nat.le_of_ble_eq_true rfl) S (ty_gather (Sx := Sx) G1 B1 (Int.le_of_lt hz) h1 (ty_T_S H) hS0) ?_
  intro x hh σ2 S f P
  obtain ⟨F2, hx⟩ := P
  obtain ⟨ex, R⟩ := hx.resolve_right (fun q => q.2.1 _ (ty_T_z H))
  rw [ex]
  have E := ga_E_of (σ0 := σ) hK F2 R
  clear ex hx
  replace fr := mi_Fm_tr fr f
  refine mi_wp_p (pc' := 10) (st' := []) rfl rfl rfl ?_
  refine mi_wp_p (pc' := 11) (st' := [.int (Int32.ofInt 0)]) rfl rfl rfl ?_
  refine mi_wp_p (pc' := 12) (l' := [(2, .int (Int32.ofInt 0)), (0, .ref 9), (1, .int (Int32.ofInt nd))]) (st' := []) rfl rfl rfl ?_
  refine mi_wp_lw (l := [(2, .int (Int32.ofInt 0)), (0, .ref 9), (1, .int (Int32.ofInt nd))]) (mi_lw_of (show List.Nodup [2, 0, 1] by decide) ⟨rfl, rfl, rfl, trivial⟩) ?_
  exact ty_rankOf_l E Z H hB hz h1 _ _ 0 rfl (Int.le_refl _) (ga_E_g E (by omega)).1 (ga_L_0 E) _ S fr
/-- whether the i-th that is gathered is a mark, or unknown -/
def mk_f (σ : mi_Sg) (i : Int) : Int := if mi_sA σ 10 (mi_sA σ 15 i) = 4 ∨ mi_sA σ 10 (mi_sA σ 15 i) = 3 then 1 else 0
theorem sm_n_ge {f : Int → Int} : ∀ n : Nat, (∀ i : Int, 0 ≤ i → i < n → 0 ≤ f i) → 0 ≤ sm_n f n
  | 0, _ => Int.le_refl _
  | n + 1, h => by
    unfold sm_n
    have h1 := sm_n_ge n (fun i a b => h i a (by omega))
    have h2 := h n (by omega) (by omega)
    omega
theorem ty_marksOf_l {X : mi_X} {d : Nat} {h0 : mi_H} {Sx : Int → Prop} {T : Int → tr} {x0 : Int} {σ0 σ : mi_Sg} (E : ga_E Sx x0 σ0 σ) (H : ty_T σ0 Sx T) : ∀ (m : Nat) (i : Int), (mi_sF σ 9 10 - i).toNat = m → 0 ≤ i → i ≤ mi_sF σ 9 10 → ∀ h, ty_H h σ → mi_Fm h0 h → mi_wp X (d + 2) mi_M139 14 [(3, .int (Int32.ofInt i)), (2, .int (Int32.ofInt (sm_n (mk_f σ) i.toNat))), (0, .ref 9)] [] h 0 0 (fun z => ∃ v h' σ', z = (.inl v, h', 0, 0) ∧ ty_H h' σ' ∧ mi_Fm h0 h' ∧ ∃ x, v = some (.int (Int32.ofInt x)) ∧ x = sm_n (mk_f σ) (mi_sF σ 9 10).toNat ∧ σ' = σ) := by
  intro m
  induction m using Nat.strongRecOn with
  | ind m ih =>
    intro i hm hi0 hi1 h S fr
    have hu := ty_H_u S
    have e8 := E.1.2.2 9 8 (by decide)
    have hg := ga_E_g E (by omega)
    have hmk : 0 ≤ sm_n (mk_f σ) i.toNat ∧ sm_n (mk_f σ) i.toNat ≤ i := by
      have h1 := sm_n_le (f := mk_f σ) (c := 1) i.toNat (fun j _ _ => by unfold mk_f; split <;> omega)
      have h2 := sm_n_ge (f := mk_f σ) i.toNat (fun j _ _ => by unfold mk_f; split <;> omega)
      omega
    refine mi_wp_p (pc' := 15) (st' := [.int (Int32.ofInt i)]) rfl rfl rfl ?_
    refine mi_wp_p (pc' := 16) (st' := [.ref 9, .int (Int32.ofInt i)]) rfl rfl rfl ?_
    refine ty_s_gf (x := mi_sF σ 9 10) S rfl rfl rfl (List.mem_of_getElem? (i := 8) rfl) rfl ?_
    refine mi_s_if2 (t := 61) rfl rfl rfl (by unfold mi_R; omega) (by unfold mi_R; omega) ?_ ?_
    · intro (c1 : (mi_sF σ 9 10) ≤ i)
      refine mi_wp_p (pc' := 62) (st' := [.int (Int32.ofInt (sm_n (mk_f σ) i.toNat))]) rfl rfl rfl ?_
      obtain rfl : i = mi_sF σ 9 10 := by omega
      exact ty_s_ret S fr rfl rfl rfl (mi_ret_i rfl) ⟨_, rfl, rfl, rfl⟩
    · intro (c1 : ¬ ((mi_sF σ 9 10) ≤ i))
      have hi : i < mi_sF σ 9 10 := by omega
      obtain ⟨⟨n1, n2⟩, n3, n4⟩ := ga_E_i E hi0 hi
      have e10t := sg_Af_Ak E.1 (k := 10) (by decide)
      have ht := (H.2 _ n3).2.2.1.1
      rw [← e10t] at ht
      have hs := sm_n_s (f := mk_f σ) (p := i + 1) (by omega)
      rw [show i + 1 - 1 = i by omega] at hs
      refine mi_wp_p (pc' := 23) (st' := [.ref 9]) rfl rfl rfl ?_
      refine ty_s_gr S rfl rfl rfl (List.mem_of_getElem? (i := 16) rfl) ?_
      refine mi_wp_p (pc' := 27) (st' := [.ref 9, .ref 10]) rfl rfl rfl ?_
      refine ty_s_gr S rfl rfl rfl (List.mem_of_getElem? (i := 21) rfl) ?_
      refine mi_wp_p (pc' := 31) (st' := [.int (Int32.ofInt i), .ref 15, .ref 10]) rfl rfl rfl ?_
      refine ty_s_ald (x := mi_sA σ 15 i) S rfl rfl (List.mem_of_getElem? (i := 9) rfl) (by decide) (by omega) (by omega) rfl ?_
      refine ty_s_ald (x := mi_sA σ 10 (mi_sA σ 15 i)) S rfl rfl (List.mem_of_getElem? (i := 4) rfl) (by decide) (by omega) (by omega) rfl ?_
      refine mi_wp_p (pc' := 35) (l' := [(4, .int (Int32.ofInt (mi_sA σ 10 (mi_sA σ 15 i)))), (3, .int (Int32.ofInt i)), (2, .int (Int32.ofInt (sm_n (mk_f σ) i.toNat))), (0, .ref 9)]) (st' := []) rfl rfl rfl ?_
      refine mi_wp_p (pc' := 36) (st' := [.int (Int32.ofInt (sm_n (mk_f σ) i.toNat))]) rfl rfl rfl ?_
      refine mi_wp_p (pc' := 38) (st' := [.int (Int32.ofInt (mi_sA σ 10 (mi_sA σ 15 i))), .int (Int32.ofInt (sm_n (mk_f σ) i.toNat))]) rfl rfl rfl ?_
      refine mi_wp_p (pc' := 39) (st' := [.int (Int32.ofInt 4), .int (Int32.ofInt (mi_sA σ 10 (mi_sA σ 15 i))), .int (Int32.ofInt (sm_n (mk_f σ) i.toNat))]) rfl rfl rfl ?_
      refine mi_s_if2 (t := 48) rfl rfl rfl (by unfold mi_R; omega) (by unfold mi_R; omega) ?_ ?_
      · intro (c2 : (mi_sA σ 10 (mi_sA σ 15 i)) = 4)
        refine mi_wp_p (pc' := 49) (st' := [.int (Int32.ofInt 1), .int (Int32.ofInt (sm_n (mk_f σ) i.toNat))]) rfl rfl rfl ?_
        refine mi_wp_p (pc' := 53) rfl rfl rfl ?_
        refine mi_s_add rfl rfl ?_
        refine mi_wp_p (pc' := 55) (l' := [(2, .int (Int32.ofInt ((sm_n (mk_f σ) i.toNat) + 1))), (4, .int (Int32.ofInt (mi_sA σ 10 (mi_sA σ 15 i)))), (3, .int (Int32.ofInt i)), (0, .ref 9)]) (st' := []) rfl rfl rfl ?_
        refine mi_s_inc (l' := [(3, .int (Int32.ofInt (i + 1))), (2, .int (Int32.ofInt ((sm_n (mk_f σ) i.toNat) + 1))), (4, .int (Int32.ofInt (mi_sA σ 10 (mi_sA σ 15 i)))), (0, .ref 9)]) rfl rfl rfl (by decide) rfl ?_
        refine mi_wp_p (pc' := 14) rfl rfl rfl ?_
        have hs2 : mk_f σ i = 1 := if_pos (by omega)
        rw [hs2] at hs
        refine mi_wp_lw (l := [(3, .int (Int32.ofInt (i + 1))), (2, .int (Int32.ofInt ((sm_n (mk_f σ) i.toNat) + 1))), (0, .ref 9)]) (mi_lw_of (show List.Nodup [3, 2, 0] by decide) ⟨rfl, rfl, rfl, trivial⟩) ?_
        rw [← hs]
        exact ih _ (by omega) (i + 1) rfl (by omega) (by omega) _ S fr
      · intro (c2 : ¬ ((mi_sA σ 10 (mi_sA σ 15 i)) = 4))
        refine mi_wp_p (pc' := 44) (st' := [.int (Int32.ofInt (mi_sA σ 10 (mi_sA σ 15 i))), .int (Int32.ofInt (sm_n (mk_f σ) i.toNat))]) rfl rfl rfl ?_
        refine mi_wp_p (pc' := 45) (st' := [.int (Int32.ofInt 3), .int (Int32.ofInt (mi_sA σ 10 (mi_sA σ 15 i))), .int (Int32.ofInt (sm_n (mk_f σ) i.toNat))]) rfl rfl rfl ?_
        refine mi_s_if2 (t := 52) rfl rfl rfl (by unfold mi_R; omega) (by unfold mi_R; omega) ?_ ?_
        · intro (c3 : (mi_sA σ 10 (mi_sA σ 15 i)) ≠ 3)
          refine mi_wp_p (pc' := 53) (st' := [.int (Int32.ofInt 0), .int (Int32.ofInt (sm_n (mk_f σ) i.toNat))]) rfl rfl rfl ?_
          refine mi_s_add rfl rfl ?_
          refine mi_wp_p (pc' := 55) (l' := [(2, .int (Int32.ofInt ((sm_n (mk_f σ) i.toNat) + 0))), (4, .int (Int32.ofInt (mi_sA σ 10 (mi_sA σ 15 i)))), (3, .int (Int32.ofInt i)), (0, .ref 9)]) (st' := []) rfl rfl rfl ?_
          refine mi_s_inc (l' := [(3, .int (Int32.ofInt (i + 1))), (2, .int (Int32.ofInt ((sm_n (mk_f σ) i.toNat) + 0))), (4, .int (Int32.ofInt (mi_sA σ 10 (mi_sA σ 15 i)))), (0, .ref 9)]) rfl rfl rfl (by decide) rfl ?_
          refine mi_wp_p (pc' := 14) rfl rfl rfl ?_
          have hs2 : mk_f σ i = 0 := if_neg (by omega)
          rw [hs2] at hs
          refine mi_wp_lw (l := [(3, .int (Int32.ofInt (i + 1))), (2, .int (Int32.ofInt ((sm_n (mk_f σ) i.toNat) + 0))), (0, .ref 9)]) (mi_lw_of (show List.Nodup [3, 2, 0] by decide) ⟨rfl, rfl, rfl, trivial⟩) ?_
          rw [← hs]
          exact ih _ (by omega) (i + 1) rfl (by omega) (by omega) _ S fr
        · intro (c3 : ¬ ((mi_sA σ 10 (mi_sA σ 15 i)) ≠ 3))
          refine mi_wp_p (pc' := 49) (st' := [.int (Int32.ofInt 1), .int (Int32.ofInt (sm_n (mk_f σ) i.toNat))]) rfl rfl rfl ?_
          refine mi_wp_p (pc' := 53) rfl rfl rfl ?_
          refine mi_s_add rfl rfl ?_
          refine mi_wp_p (pc' := 55) (l' := [(2, .int (Int32.ofInt ((sm_n (mk_f σ) i.toNat) + 1))), (4, .int (Int32.ofInt (mi_sA σ 10 (mi_sA σ 15 i)))), (3, .int (Int32.ofInt i)), (0, .ref 9)]) (st' := []) rfl rfl rfl ?_
          refine mi_s_inc (l' := [(3, .int (Int32.ofInt (i + 1))), (2, .int (Int32.ofInt ((sm_n (mk_f σ) i.toNat) + 1))), (4, .int (Int32.ofInt (mi_sA σ 10 (mi_sA σ 15 i)))), (0, .ref 9)]) rfl rfl rfl (by decide) rfl ?_
          refine mi_wp_p (pc' := 14) rfl rfl rfl ?_
          have hs2 : mk_f σ i = 1 := if_pos (by omega)
          rw [hs2] at hs
          refine mi_wp_lw (l := [(3, .int (Int32.ofInt (i + 1))), (2, .int (Int32.ofInt ((sm_n (mk_f σ) i.toNat) + 1))), (0, .ref 9)]) (mi_lw_of (show List.Nodup [3, 2, 0] by decide) ⟨rfl, rfl, rfl, trivial⟩) ?_
          rw [← hs]
          exact ih _ (by omega) (i + 1) rfl (by omega) (by omega) _ S fr
theorem ty_marksOf {X : mi_X} {d : Nat} {σ : mi_Sg} {Sx : Int → Prop} {T : Int → tr} {nd : Int} (Z : ty_Z σ) (hr : mi_sF σ 9 11 < 100000000) (H : ty_T σ Sx T) (hz : 0 < nd) (h1 : nd < mi_sF σ 9 8) (hS0 : Sx (mi_sA σ 12 nd)) : ty_Ci X (d + 2) mi_M139 [(0, .ref 9), (1, .int (Int32.ofInt nd))] σ (fun x σ' => x = sm_n (mk_f σ') (mi_sF σ' 9 10).toNat ∧ ga_E Sx (mi_sA σ 12 nd) σ σ') := by
  intro h S
  have fr := mi_Fm_rf h
  have hu := ty_H_u S
  obtain ⟨G1, B1⟩ := ty_b_G Z hr
  have hK := (ga_K_r S Z.2.1).1
  have hS0 := fun (_ : mi_sA σ 12 nd ≠ 0) => hS0
  refine mi_wp_p (pc' := 1) (st' := [.ref 9]) rfl rfl rfl ?_
  refine ty_s_cv rfl rfl rfl rfl rfl rfl (mi_cal_v2 (np := 0) (args := [.ref 9]) (rest := []) rfl rfl rfl rfl rfl (Nat.le_of_ble_eq_true rfl) rfl rfl (Nat.le_of_ble_eq_true rfl) (ty_rcS S (List.mem_of_getElem? (i := 5) rfl))) (Nat.le_of_ble_eq_true rfl) S ty_begin ?_
  intro hh σ1 S f P
  subst P
  change ty_H _ (ty_b σ) at S
  replace fr := mi_Fm_tr fr f
  refine mi_wp_p (pc' := 5) (st' := [.ref 9]) rfl rfl rfl ?_
  refine mi_wp_p (pc' := 6) (st' := [.int (Int32.ofInt nd), .ref 9]) rfl rfl rfl ?_
  refine ty_s_ci rfl rfl rfl rfl rfl rfl (mi_cal_v2 (np := 1) (args := [.ref 9, .int (Int32.ofInt nd)]) (rest := []) rfl rfl rfl rfl rfl (Nat.le_of_ble_eq_true rfl) rfl rfl (Nat.le_of_ble_eq_true rfl) (ty_rcS S (List.mem_of_getElem? (i := 5) rfl))) (Nat.le_of_ble_eq_true rfl) S (ty_gather (Sx := Sx) G1 B1 (Int.le_of_lt hz) h1 (ty_T_S H) hS0) ?_
  intro x hh σ2 S f P
  obtain ⟨F2, hx⟩ := P
  obtain ⟨ex, R⟩ := hx.resolve_right (fun q => q.2.1 _ (ty_T_z H))
  rw [ex]
  have E := ga_E_of (σ0 := σ) hK F2 R
  clear ex hx
  replace fr := mi_Fm_tr fr f
  refine mi_wp_p (pc' := 10) (st' := []) rfl rfl rfl ?_
  refine mi_wp_p (pc' := 11) (st' := [.int (Int32.ofInt 0)]) rfl rfl rfl ?_
  refine mi_wp_p (pc' := 12) (l' := [(2, .int (Int32.ofInt 0)), (0, .ref 9), (1, .int (Int32.ofInt nd))]) (st' := []) rfl rfl rfl ?_
  refine mi_wp_p (pc' := 13) (st' := [.int (Int32.ofInt 0)]) rfl rfl rfl ?_
  refine mi_wp_p (pc' := 14) (l' := [(3, .int (Int32.ofInt 0)), (2, .int (Int32.ofInt 0)), (0, .ref 9), (1, .int (Int32.ofInt nd))]) (st' := []) rfl rfl rfl ?_
  refine mi_wp_lw (l := [(3, .int (Int32.ofInt 0)), (2, .int (Int32.ofInt 0)), (0, .ref 9)]) (mi_lw_of (show List.Nodup [3, 2, 0] by decide) ⟨rfl, rfl, rfl, trivial⟩) ?_
  refine mi_wp_q (ty_marksOf_l E H _ 0 rfl (Int.le_refl _) (ga_E_g E (by omega)).1 _ S fr) (fun z hz => ?_)
  obtain ⟨v, h', σ', a1, a2, a3, x, a4, a5, a6⟩ := hz
  subst a6
  exact ⟨v, h', _, a1, a2, a3, x, a4, a5, E⟩
