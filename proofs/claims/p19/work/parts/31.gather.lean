/-! ===== gather (printed by wip/gen/p_gather.py) ===== -/
/-- only the rows ks and the fields fs differ -/
def sg_Af (ks : List Nat) (fs : List (Nat × Nat)) (σ σ' : mi_Sg) : Prop := σ'.2.2 = σ.2.2 ∧ (∀ (k : Nat) (i : Int), k ∉ ks → mi_sA σ' k i = mi_sA σ k i) ∧ (∀ k j : Nat, (k, j) ∉ fs → mi_sF σ' k j = mi_sF σ k j)
section AF
variable {ks : List Nat} {fs : List (Nat × Nat)} {σ σ1 σ2 : mi_Sg}
theorem sg_Af_rf : sg_Af ks fs σ σ := ⟨rfl, fun _ _ _ => rfl, fun _ _ _ => rfl⟩
theorem sg_Af_tr (a : sg_Af ks fs σ σ1) (b : sg_Af ks fs σ1 σ2) : sg_Af ks fs σ σ2 := ⟨b.1.trans a.1, fun k i hk => (b.2.1 k i hk).trans (a.2.1 k i hk), fun k j hk => (b.2.2 k j hk).trans (a.2.2 k j hk)⟩
theorem sg_Af_A {k : Nat} {i x : Int} (a : sg_Af ks fs σ σ1) (hk : k ∈ ks) : sg_Af ks fs σ (mi_uA σ1 k i x) := ⟨a.1, fun k' i' hk' => by
  rw [mi_AA, if_neg (fun (e : k' = k ∧ i' = i) => hk' (e.1 ▸ hk))]
  exact a.2.1 k' i' hk', a.2.2⟩
theorem sg_Af_F {k j : Nat} {x : Int} (a : sg_Af ks fs σ σ1) (hk : (k, j) ∈ fs) : sg_Af ks fs σ (mi_uF σ1 k j x) := ⟨a.1, a.2.1, fun k' j' hk' => by
  rw [mi_FF, if_neg (fun (e : k' = k ∧ j' = j) => hk' (by rw [e.1, e.2]; exact hk))]
  exact a.2.2 k' j' hk'⟩
theorem sg_Af_w {ks' : List Nat} {fs' : List (Nat × Nat)} (a : sg_Af ks fs σ σ1) (h1 : ∀ k ∈ ks, k ∈ ks') (h2 : ∀ k ∈ fs, k ∈ fs') : sg_Af ks' fs' σ σ1 := ⟨a.1, fun k i hk => a.2.1 k i (fun q => hk (h1 k q)), fun k j hk => a.2.2 k j (fun q => hk (h2 _ q))⟩
theorem sg_Af_Ak (a : sg_Af ks fs σ σ1) {k : Nat} (hk : k ∉ ks) : mi_sA σ1 k = mi_sA σ k := funext (fun i => a.2.1 k i hk)
end AF
/-- the kid of a node, at the end of its way -/
def ty_K' (σ : mi_Sg) (n w : Int) : Int := mi_sA σ 12 (ty_k σ n w)
/-- the rows of the nodes are in order -/
def ty_G (σ : mi_Sg) : Prop := (1 ≤ mi_sF σ 9 11 ∧ mi_sF σ 9 11 ≤ 100000000) ∧ ∀ n k, 0 < n → n < mi_sF σ 9 8 → 0 ≤ k → k < 3 → 0 ≤ ty_k σ n k ∧ ty_k σ n k < mi_sF σ 9 8
/-- what this round has gathered -/
def ga_S (σ : mi_Sg) : Prop := ∃ pos, 0 ≤ mi_sF σ 9 10 ∧ ga_b (mi_sA σ 12) (mi_sA σ 13) (mi_sA σ 15) pos (ty_K' σ) (mi_sF σ 9 8) (mi_sF σ 9 11) (mi_sF σ 9 10) ∧ ∀ n, 0 < n → n < mi_sF σ 9 8 → mi_sA σ 13 n ≠ 2 * mi_sF σ 9 11
/-- what gather leaves: all that S closes over and the root reaches, kids first -/
def ga_R (Sx : Int → Prop) (x0 : Int) (σ σ' : mi_Sg) : Prop := ga_S σ' ∧ mi_sF σ 9 10 ≤ mi_sF σ' 9 10 ∧ (∀ i, 0 ≤ i → i < mi_sF σ 9 10 → mi_sA σ' 15 i = mi_sA σ 15 i) ∧ (∀ i, mi_sF σ 9 10 ≤ i → i < mi_sF σ' 9 10 → Sx (mi_sA σ' 15 i)) ∧ (x0 = 0 ∨ mi_sA σ' 13 x0 = 2 * mi_sF σ 9 11 + 1) ∧ (∀ n, 0 < n → n < mi_sF σ 9 8 → mi_sA σ 13 n = 2 * mi_sF σ 9 11 + 1 → mi_sA σ' 13 n = 2 * mi_sF σ 9 11 + 1)
def ga_Q (Sx : Int → Prop) (x0 : Int) (σ : mi_Sg) (x : Int) (σ' : mi_Sg) : Prop := sg_Af [13, 14, 15, 16] [(9, 10)] σ σ' ∧ ((x = 1 ∧ ga_R Sx x0 σ σ') ∨ (x = 0 ∧ (∀ sz, ¬ ga_z Sx (ty_K' σ) (mi_sF σ 9 8) sz) ∧ (∀ n, 0 ≤ n → n < mi_sF σ 9 8 → 0 ≤ mi_sA σ' 13 n ∧ mi_sA σ' 13 n ≤ 2 * mi_sF σ 9 11 + 1) ∧ mi_sA σ' 13 0 = 0))
/-- the state inside gather -/
def ga_J (Sx : Int → Prop) (x0 : Int) (σ0 σ : mi_Sg) (p c : Int) : Prop := sg_Af [13, 14, 15, 16] [(9, 10)] σ0 σ ∧ ga_I Sx x0 (mi_sF σ0 9 10) (mi_sA σ0 15) (mi_sA σ0 13) (mi_sA σ0 12) (ty_K' σ0) (mi_sF σ0 9 8) (mi_sF σ0 9 11) (mi_sF σ 9 10) p c (mi_sA σ 13) (mi_sA σ 14) (mi_sA σ 15) (mi_sA σ 16)
theorem ga_K_r {h : mi_H} {σ : mi_Sg} (S : ty_H h σ) (G : ∀ n k, 0 < n → n < mi_sF σ 9 8 → 0 ≤ k → k < 3 → 0 ≤ ty_k σ n k ∧ ty_k σ n k < mi_sF σ 9 8) : (∀ n k, 0 < n → n < mi_sF σ 9 8 → 0 ≤ k → k < 3 → 0 ≤ ty_K' σ n k ∧ ty_K' σ n k < mi_sF σ 9 8) ∧ (∀ n k, 0 < n → n < mi_sF σ 9 8 → 0 ≤ k → k < 3 → mi_sA σ 12 (ty_K' σ n k) = ty_K' σ n k) := by
  refine ⟨fun n k h0 h1 k0 k1 => ?_, fun n k h0 h1 k0 k1 => ?_⟩
  · obtain ⟨g1, g2⟩ := G n k h0 h1 k0 k1
    have := ty_H_z S g1 g2
    exact ⟨this.1, this.2.1⟩
  · obtain ⟨g1, g2⟩ := G n k h0 h1 k0 k1
    unfold ty_K'
    by_cases e : ty_k σ n k = 0
    · have := (ty_H_u S).2.2.2
      rw [e, this, this]
    · exact (ty_H_r S (by omega) g2).2.2
theorem ga_J_end {Sx : Int → Prop} {x0 : Int} {σ0 σ : mi_Sg} {c : Int} (J : ga_J Sx x0 σ0 σ 0 c) : ga_Q Sx x0 σ0 1 σ := by
  obtain ⟨F, pos, dep, ⟨a1, a2, a3⟩, B, ⟨p1, p2⟩, e, ⟨z1, z2⟩, o, hc, hx, ho⟩ := J
  have e8 := F.2.2 9 8 (by decide)
  have e11 := F.2.2 9 11 (by decide)
  have e12 := sg_Af_Ak F (k := 12) (by decide)
  have eK : ty_K' σ = ty_K' σ0 := by
    funext n k
    unfold ty_K' ty_k
    rw [e12, sg_Af_Ak F (k := 11) (by decide)]
  refine ⟨F, Or.inl ⟨rfl, ⟨pos, by omega, by rw [e8, e11, e12, eK]; exact B, ?_⟩, a2, o, z1, ?_, ho⟩⟩
  · rw [e8, e11]
    intro n h0 h1 h2
    obtain ⟨⟨q1, q2⟩, -⟩ := p2 n h0 h1 h2
    omega
  · rcases hx with q | q | ⟨q, -⟩
    · exact Or.inl q
    · exact Or.inr q
    · omega
/-- the beginning: nothing is grey -/
theorem ga_J_0 {Sx : Int → Prop} {x0 : Int} {σ0 : mi_Sg} (B : ga_S σ0) (hx : x0 = 0 ∨ mi_sA σ0 13 x0 = 2 * mi_sF σ0 9 11 + 1) : ga_J Sx x0 σ0 σ0 0 0 := by
  obtain ⟨pos, g0, B, hn⟩ := B
  refine ⟨sg_Af_rf, pos, fun _ => 0, ⟨g0, Int.le_refl _, Int.le_refl _⟩, B, ⟨fun i h0 h1 => by omega, fun n h0 h1 h2 => absurd h2 (hn n h0 h1)⟩, fun sz hz i j h0 h1 h2 => by omega, ⟨fun i h0 h1 => by omega, fun i h0 h1 => by omega⟩, fun i h0 h1 => rfl, ?_, ?_, fun n h0 h1 h2 => h2⟩
  · simp [sm_n]
  · rcases hx with q | q
    · exact Or.inl q
    · exact Or.inr (Or.inl q)
/-- the beginning: the root is grey -/
theorem ga_J_1 {Sx : Int → Prop} {x0 : Int} {σ0 : mi_Sg} (B : ga_S σ0) (h0 : 0 < x0) (h1 : x0 < mi_sF σ0 9 8) (hρ : mi_sA σ0 12 x0 = x0) (hw : mi_sA σ0 13 x0 < 2 * mi_sF σ0 9 11) (hS : Sx x0) : ga_J Sx x0 σ0 (mi_uA (mi_uA (mi_uA σ0 13 x0 (2 * mi_sF σ0 9 11)) 14 x0 0) 16 0 x0) 1 0 := by
  obtain ⟨pos, g0, ⟨b1, b2, b3, b4⟩, hn⟩ := B
  have f13 : ∀ i, mi_sA (mi_uA (mi_uA (mi_uA σ0 13 x0 (2 * mi_sF σ0 9 11)) 14 x0 0) 16 0 x0) 13 i = if i = x0 then 2 * mi_sF σ0 9 11 else mi_sA σ0 13 i := fun i => by simp [mi_AA]
  have f14 : mi_sA (mi_uA (mi_uA (mi_uA σ0 13 x0 (2 * mi_sF σ0 9 11)) 14 x0 0) 16 0 x0) 14 x0 = 0 := by simp [mi_AA]
  have f15 : ∀ i, mi_sA (mi_uA (mi_uA (mi_uA σ0 13 x0 (2 * mi_sF σ0 9 11)) 14 x0 0) 16 0 x0) 15 i = mi_sA σ0 15 i := fun i => by simp [mi_AA]
  have f16 : mi_sA (mi_uA (mi_uA (mi_uA σ0 13 x0 (2 * mi_sF σ0 9 11)) 14 x0 0) 16 0 x0) 16 0 = x0 := by simp [mi_AA]
  refine ⟨sg_Af_A (sg_Af_A (sg_Af_A sg_Af_rf (by decide)) (by decide)) (by decide), pos, fun _ => 0, ⟨g0, Int.le_refl _, by omega⟩, ⟨fun i q0 q1 => ?_, fun n q0 q1 q2 => ?_, fun n q0 q1 => ?_, ?_⟩, ⟨fun i q0 q1 => ?_, fun n q0 q1 q2 => ?_⟩, fun sz hz i j q0 q1 q2 => by omega, ⟨fun i q0 q1 => ?_, fun i q0 q1 => ?_⟩, fun i q0 q1 => f15 i, ?_, Or.inr (Or.inr ⟨by omega, f16⟩), fun n q0 q1 q2 => ?_⟩
  · obtain ⟨w1, w2, w3⟩ := b1 i q0 q1
    rw [f15]
    exact ⟨w1, by rw [f13, if_neg (fun e => by rw [e] at w2; omega)]; exact w2, w3⟩
  · have hne : n ≠ x0 := fun e => by rw [f13, if_pos e] at q2; omega
    rw [f13, if_neg hne] at q2
    obtain ⟨w1, w2, w3, w4⟩ := b2 n q0 q1 q2
    refine ⟨w1, by rw [f15]; exact w2, w3, fun k k0 k1 => ?_⟩
    rcases w4 k k0 k1 with e | ⟨e1, e2⟩
    · exact Or.inl e
    · exact Or.inr ⟨by rw [f13, if_neg (fun e => by rw [e] at e1; omega)]; exact e1, e2⟩
  · have := b3 x0 (by omega) h1
    rw [f13]
    split
    · omega
    · exact b3 n q0 q1
  · rw [f13, if_neg (by omega)]
    exact b4
  · obtain rfl : i = 0 := by omega
    rw [f16, f13, if_pos rfl, f14]
    exact ⟨⟨h0, h1⟩, hρ, rfl, rfl, by omega, fun k k0 k1 => by omega⟩
  · have e : n = x0 := by
      refine Decidable.byContradiction (fun hne => ?_)
      rw [f13, if_neg hne] at q2
      exact hn n q0 q1 q2
    exact ⟨⟨Int.le_refl _, Int.zero_lt_one⟩, by show mi_sA _ 16 0 = n; rw [f16, e]⟩
  · rw [f15]
    change i < mi_sF σ0 9 10 at q1
    omega
  · obtain rfl : i = 0 := by omega
    rw [f16]
    exact hS
  · show (0 : Int) = 4 * (mi_sF σ0 9 10 - mi_sF σ0 9 10) + (0 + mi_sA _ 14 (mi_sA _ 16 ((0 : Nat) : Int)))
    rw [show (((0 : Nat) : Int)) = 0 from rfl, f16, f14]
    omega
  · rw [f13, if_neg (fun e => by rw [e] at q2; omega)]
    exact q2
theorem ty_enter {X : mi_X} {d : Nat} {σ : mi_Sg} {nd dp : Int} (h0 : 0 ≤ nd) (h1 : nd < mi_sF σ 9 8) (hp0 : 0 ≤ dp) (hp1 : dp < 512) (hr : 0 ≤ mi_sF σ 9 11 ∧ mi_sF σ 9 11 ≤ 100000000) (hs : 0 ≤ mi_sA σ 13 nd ∧ mi_sA σ 13 nd ≤ 2 * mi_sF σ 9 11 + 1) : ty_Ci X d mi_M125 [(0, .ref 9), (1, .int (Int32.ofInt nd)), (2, .int (Int32.ofInt dp))] σ (fun x σ' => ((nd = 0 ∨ 2 * mi_sF σ 9 11 ≤ mi_sA σ 13 nd) ∧ x = dp ∧ σ' = σ) ∨ (nd ≠ 0 ∧ mi_sA σ 13 nd < 2 * mi_sF σ 9 11 ∧ x = dp + 1 ∧ σ' = mi_uA (mi_uA (mi_uA σ 13 nd (2 * mi_sF σ 9 11)) 14 nd 0) 16 dp nd)) := by
  intro h S
  have fr := mi_Fm_rf h
  have hu := ty_H_u S
  refine mi_wp_p (pc' := 1) (st' := [.int (Int32.ofInt nd)]) rfl rfl rfl ?_
  refine mi_s_if1 (t := 27) rfl rfl rfl (by unfold mi_R; omega) ?_ ?_
  · intro (c1 : nd = 0)
    refine mi_wp_p (pc' := 28) (st' := [.int (Int32.ofInt dp)]) rfl rfl rfl ?_
    exact ty_s_ret S fr rfl rfl rfl (mi_ret_i rfl) ⟨_, rfl, Or.inl ⟨by omega, rfl, rfl⟩⟩
  · intro (c1 : ¬ (nd = 0))
    refine mi_wp_p (pc' := 5) (st' := [.ref 9]) rfl rfl rfl ?_
    refine ty_s_gr S rfl rfl rfl (List.mem_of_getElem? (i := 19) rfl) ?_
    refine mi_wp_p (pc' := 9) (st' := [.int (Int32.ofInt nd), .ref 13]) rfl rfl rfl ?_
    refine ty_s_ald (x := mi_sA σ 13 nd) S rfl rfl (List.mem_of_getElem? (i := 7) rfl) (by decide) (by omega) (by omega) rfl ?_
    refine mi_wp_p (pc' := 11) (st' := [.int (Int32.ofInt 2), .int (Int32.ofInt (mi_sA σ 13 nd))]) rfl rfl rfl ?_
    refine mi_wp_p (pc' := 12) (st' := [.ref 9, .int (Int32.ofInt 2), .int (Int32.ofInt (mi_sA σ 13 nd))]) rfl rfl rfl ?_
    refine ty_s_gf (x := mi_sF σ 9 11) S rfl rfl rfl (List.mem_of_getElem? (i := 9) rfl) rfl ?_
    refine mi_s_mul rfl rfl ?_
    refine mi_s_if2 (t := 27) rfl rfl rfl (by unfold mi_R; omega) (by unfold mi_R; omega) ?_ ?_
    · intro (c2 : (2 * (mi_sF σ 9 11)) ≤ (mi_sA σ 13 nd))
      refine mi_wp_p (pc' := 28) (st' := [.int (Int32.ofInt dp)]) rfl rfl rfl ?_
      exact ty_s_ret S fr rfl rfl rfl (mi_ret_i rfl) ⟨_, rfl, Or.inl ⟨by omega, rfl, rfl⟩⟩
    · intro (c2 : ¬ ((2 * (mi_sF σ 9 11)) ≤ (mi_sA σ 13 nd)))
      refine mi_wp_p (pc' := 20) (st' := [.int (Int32.ofInt dp)]) rfl rfl rfl ?_
      refine mi_wp_p (pc' := 21) (st' := [.ref 9, .int (Int32.ofInt dp)]) rfl rfl rfl ?_
      refine ty_s_gf (x := mi_sF σ 9 7) S rfl rfl rfl (List.mem_of_getElem? (i := 5) rfl) rfl ?_
      refine mi_s_if2 (t := 29) rfl rfl rfl (by unfold mi_R; omega) (by unfold mi_R; omega) (fun _ => ?_) (fun hc_ => absurd (show dp < (mi_sF σ 9 7) by omega) hc_)
      refine mi_wp_p (pc' := 30) (st' := [.ref 9]) rfl rfl rfl ?_
      refine ty_s_gr S rfl rfl rfl (List.mem_of_getElem? (i := 19) rfl) ?_
      refine mi_wp_p (pc' := 34) (st' := [.int (Int32.ofInt nd), .ref 13]) rfl rfl rfl ?_
      refine mi_wp_p (pc' := 35) (st' := [.int (Int32.ofInt 2), .int (Int32.ofInt nd), .ref 13]) rfl rfl rfl ?_
      refine mi_wp_p (pc' := 36) (st' := [.ref 9, .int (Int32.ofInt 2), .int (Int32.ofInt nd), .ref 13]) rfl rfl rfl ?_
      refine ty_s_gf (x := mi_sF σ 9 11) S rfl rfl rfl (List.mem_of_getElem? (i := 9) rfl) rfl ?_
      refine mi_s_mul rfl rfl ?_
      refine ty_s_ast S rfl rfl (List.mem_of_getElem? (i := 7) rfl) (by decide) (by decide) (by omega) (by omega) ?_
      intro h3 S f
      replace fr := mi_Fm_tr fr f
      refine mi_wp_p (pc' := 42) (st' := [.ref 9]) rfl rfl rfl ?_
      refine ty_s_gr S rfl rfl rfl (List.mem_of_getElem? (i := 20) rfl) ?_
      refine mi_wp_p (pc' := 46) (st' := [.int (Int32.ofInt nd), .ref 14]) rfl rfl rfl ?_
      refine mi_wp_p (pc' := 47) (st' := [.int (Int32.ofInt 0), .int (Int32.ofInt nd), .ref 14]) rfl rfl rfl ?_
      refine ty_s_ast S rfl rfl (List.mem_of_getElem? (i := 8) rfl) (by decide) (by decide) (by omega) (by omega) ?_
      intro h4 S f
      replace fr := mi_Fm_tr fr f
      refine mi_wp_p (pc' := 49) (st' := [.ref 9]) rfl rfl rfl ?_
      refine ty_s_gr S rfl rfl rfl (List.mem_of_getElem? (i := 22) rfl) ?_
      refine mi_wp_p (pc' := 53) (st' := [.int (Int32.ofInt dp), .ref 16]) rfl rfl rfl ?_
      refine mi_wp_p (pc' := 54) (st' := [.int (Int32.ofInt nd), .int (Int32.ofInt dp), .ref 16]) rfl rfl rfl ?_
      refine ty_s_ast S rfl rfl (List.mem_of_getElem? (i := 10) rfl) (by decide) (by decide) (by omega) (by omega) ?_
      intro h5 S f
      replace fr := mi_Fm_tr fr f
      refine mi_wp_p (pc' := 56) (st' := [.int (Int32.ofInt dp)]) rfl rfl rfl ?_
      refine mi_wp_p (pc' := 57) (st' := [.int (Int32.ofInt 1), .int (Int32.ofInt dp)]) rfl rfl rfl ?_
      refine mi_s_add rfl rfl ?_
      exact ty_s_ret S fr rfl rfl rfl (mi_ret_i rfl) ⟨_, rfl, Or.inr ⟨by omega, by omega, rfl, rfl⟩⟩
theorem ga_loop {X : mi_X} {d : Nat} {h0 : mi_H} {Sx : Int → Prop} {x0 : Int} {σ0 : mi_Sg} (G : ty_G σ0) (hS : ∀ n k, Sx n → 0 < n → n < mi_sF σ0 9 8 → 0 ≤ k → k < 3 → ty_K' σ0 n k ≠ 0 → Sx (ty_K' σ0 n k)) (hK : ∀ n k, 0 < n → n < mi_sF σ0 9 8 → 0 ≤ k → k < 3 → 0 ≤ ty_K' σ0 n k ∧ ty_K' σ0 n k < mi_sF σ0 9 8) (hρ : ∀ n k, 0 < n → n < mi_sF σ0 9 8 → 0 ≤ k → k < 3 → mi_sA σ0 12 (ty_K' σ0 n k) = ty_K' σ0 n k) : ∀ (m : Nat) (σ : mi_Sg) (p c : Int), (4 * mi_sF σ0 9 8 + 1 - c).toNat = m → 0 ≤ c → ga_J Sx x0 σ0 σ p c → ∀ h, ty_H h σ → mi_Fm h0 h → mi_wp X (d + 1) mi_M130 21 [(4, .int (Int32.ofInt c)), (2, .int (Int32.ofInt p)), (3, .int (Int32.ofInt (4 * mi_sF σ0 9 8))), (0, .ref 9)] [] h 0 0 (fun z => ∃ v h' σ', z = (.inl v, h', 0, 0) ∧ ty_H h' σ' ∧ mi_Fm h0 h' ∧ ∃ x, v = some (.int (Int32.ofInt x)) ∧ ga_Q Sx x0 σ0 x σ') := by
  intro m
  induction m using Nat.strongRecOn with
  | ind m ih =>
    intro σ p c hm hc0 J h S fr
    have hu := ty_H_u S
    obtain ⟨F, I⟩ := J
    have e8 := F.2.2 9 8 (by decide)
    have e11 := F.2.2 9 11 (by decide)
    obtain ⟨r1, r2, r3, r4⟩ := ga_room I (by omega)
    obtain ⟨⟨G1, G1b⟩, G2⟩ := G
    refine mi_wp_p (pc' := 23) (st' := [.int (Int32.ofInt c)]) rfl rfl rfl ?_
    refine mi_wp_p (pc' := 24) (st' := [.int (Int32.ofInt (4 * mi_sF σ0 9 8)), .int (Int32.ofInt c)]) rfl rfl rfl ?_
    refine mi_s_if2 (t := 159) rfl rfl rfl (by unfold mi_R; omega) (by unfold mi_R; omega) ?_ ?_
    · intro (c1 : (4 * mi_sF σ0 9 8) ≤ c)
      refine mi_wp_p (pc' := 160) (st' := [.int (Int32.ofInt 1)]) rfl rfl rfl ?_
      obtain rfl : p = 0 := by omega
      exact ty_s_ret S fr rfl rfl rfl rfl ⟨_, rfl, ga_J_end ⟨F, I⟩⟩
    · intro (c1 : ¬ ((4 * mi_sF σ0 9 8) ≤ c))
      refine mi_wp_p (pc' := 28) (st' := [.int (Int32.ofInt p)]) rfl rfl rfl ?_
      refine mi_s_if1 (t := 159) rfl rfl rfl (by unfold mi_R; omega) ?_ ?_
      · intro (c2 : p ≤ 0)
        refine mi_wp_p (pc' := 160) (st' := [.int (Int32.ofInt 1)]) rfl rfl rfl ?_
        obtain rfl : p = 0 := by omega
        exact ty_s_ret S fr rfl rfl rfl rfl ⟨_, rfl, ga_J_end ⟨F, I⟩⟩
      · intro (c2 : ¬ (p ≤ 0))
        have hp : 0 < p := by omega
        obtain ⟨⟨t1, t2⟩, t3, t4, t5, t6⟩ := ga_top I hp
        refine mi_wp_p (pc' := 32) (st' := [.ref 9]) rfl rfl rfl ?_
        refine ty_s_gr S rfl rfl rfl (List.mem_of_getElem? (i := 22) rfl) ?_
        refine mi_wp_p (pc' := 36) (st' := [.int (Int32.ofInt p), .ref 16]) rfl rfl rfl ?_
        refine mi_wp_p (pc' := 37) (st' := [.int (Int32.ofInt 1), .int (Int32.ofInt p), .ref 16]) rfl rfl rfl ?_
        refine mi_s_sub rfl rfl ?_
        refine ty_s_ald (x := mi_sA σ 16 (p - 1)) S rfl rfl (List.mem_of_getElem? (i := 10) rfl) (by decide) (by omega) (by omega) rfl ?_
        refine mi_wp_p (pc' := 41) (l' := [(5, .int (Int32.ofInt (mi_sA σ 16 (p - 1)))), (4, .int (Int32.ofInt c)), (2, .int (Int32.ofInt p)), (3, .int (Int32.ofInt (4 * mi_sF σ0 9 8))), (0, .ref 9)]) (st' := []) rfl rfl rfl ?_
        refine mi_wp_p (pc' := 42) (st' := [.ref 9]) rfl rfl rfl ?_
        refine ty_s_gr S rfl rfl rfl (List.mem_of_getElem? (i := 20) rfl) ?_
        refine mi_wp_p (pc' := 47) (st' := [.int (Int32.ofInt (mi_sA σ 16 (p - 1))), .ref 14]) rfl rfl rfl ?_
        refine ty_s_ald (x := mi_sA σ 14 (mi_sA σ 16 (p - 1))) S rfl rfl (List.mem_of_getElem? (i := 8) rfl) (by decide) (by omega) (by omega) rfl ?_
        refine mi_wp_p (pc' := 50) (l' := [(6, .int (Int32.ofInt (mi_sA σ 14 (mi_sA σ 16 (p - 1))))), (5, .int (Int32.ofInt (mi_sA σ 16 (p - 1)))), (4, .int (Int32.ofInt c)), (2, .int (Int32.ofInt p)), (3, .int (Int32.ofInt (4 * mi_sF σ0 9 8))), (0, .ref 9)]) (st' := []) rfl rfl rfl ?_
        refine mi_wp_p (pc' := 52) (st' := [.int (Int32.ofInt (mi_sA σ 14 (mi_sA σ 16 (p - 1))))]) rfl rfl rfl ?_
        refine mi_wp_p (pc' := 53) (st' := [.int (Int32.ofInt 3), .int (Int32.ofInt (mi_sA σ 14 (mi_sA σ 16 (p - 1))))]) rfl rfl rfl ?_
        refine mi_s_if2 (t := 98) rfl rfl rfl (by unfold mi_R; omega) (by unfold mi_R; omega) ?_ ?_
        · intro (c3 : (mi_sA σ 14 (mi_sA σ 16 (p - 1))) < 3)
          have ht : mi_sA σ 14 (mi_sA σ 16 (p - 1)) < 3 := c3
          have hk := G2 (mi_sA σ 16 (p - 1)) (mi_sA σ 14 (mi_sA σ 16 (p - 1))) t1 t2 t4 ht
          have hkk : ty_k σ0 (mi_sA σ 16 (p - 1)) (mi_sA σ 14 (mi_sA σ 16 (p - 1))) = mi_sA σ 11 ((mi_sA σ 16 (p - 1)) * 3 + mi_sA σ 14 (mi_sA σ 16 (p - 1))) := (F.2.1 11 _ (by decide)).symm
          have hKK : ty_K' σ0 (mi_sA σ 16 (p - 1)) (mi_sA σ 14 (mi_sA σ 16 (p - 1))) = mi_sA σ 12 (mi_sA σ 11 ((mi_sA σ 16 (p - 1)) * 3 + mi_sA σ 14 (mi_sA σ 16 (p - 1)))) := by
            unfold ty_K'
            rw [hkk, sg_Af_Ak F (k := 12) (by decide)]
          rw [hkk, ← e8] at hk
          have hrr := ty_H_z S hk.1 hk.2
          have hsn := ga_sn I hrr.1 (by omega)
          rw [← e11] at hsn
          have F1 : sg_Af [13, 14, 15, 16] [(9, 10)] σ0 (mi_uA σ 14 (mi_sA σ 16 (p - 1)) (mi_sA σ 14 (mi_sA σ 16 (p - 1)) + 1)) := sg_Af_A F (by decide)
          refine mi_wp_p (pc' := 99) (st' := [.ref 9]) rfl rfl rfl ?_
          refine ty_s_gr S rfl rfl rfl (List.mem_of_getElem? (i := 20) rfl) ?_
          refine mi_wp_p (pc' := 104) (st' := [.int (Int32.ofInt (mi_sA σ 16 (p - 1))), .ref 14]) rfl rfl rfl ?_
          refine mi_wp_p (pc' := 106) (st' := [.int (Int32.ofInt (mi_sA σ 14 (mi_sA σ 16 (p - 1)))), .int (Int32.ofInt (mi_sA σ 16 (p - 1))), .ref 14]) rfl rfl rfl ?_
          refine mi_wp_p (pc' := 107) (st' := [.int (Int32.ofInt 1), .int (Int32.ofInt (mi_sA σ 14 (mi_sA σ 16 (p - 1)))), .int (Int32.ofInt (mi_sA σ 16 (p - 1))), .ref 14]) rfl rfl rfl ?_
          refine mi_s_add rfl rfl ?_
          refine ty_s_ast S rfl rfl (List.mem_of_getElem? (i := 8) rfl) (by decide) (by decide) (by omega) (by omega) ?_
          intro h4 S f
          replace fr := mi_Fm_tr fr f
          refine mi_wp_p (pc' := 110) (st' := [.ref 9]) rfl rfl rfl ?_
          refine mi_wp_p (pc' := 111) (st' := [.ref 9, .ref 9]) rfl rfl rfl ?_
          refine ty_s_gr S rfl rfl rfl (List.mem_of_getElem? (i := 17) rfl) ?_
          refine mi_wp_p (pc' := 116) (st' := [.int (Int32.ofInt (mi_sA σ 16 (p - 1))), .ref 11, .ref 9]) rfl rfl rfl ?_
          refine mi_wp_p (pc' := 117) (st' := [.int (Int32.ofInt 3), .int (Int32.ofInt (mi_sA σ 16 (p - 1))), .ref 11, .ref 9]) rfl rfl rfl ?_
          refine mi_s_mul rfl rfl ?_
          refine mi_wp_p (pc' := 120) (st' := [.int (Int32.ofInt (mi_sA σ 14 (mi_sA σ 16 (p - 1)))), .int (Int32.ofInt ((mi_sA σ 16 (p - 1)) * 3)), .ref 11, .ref 9]) rfl rfl rfl ?_
          refine mi_s_add rfl rfl ?_
          refine ty_s_ald (x := mi_sA σ 11 (((mi_sA σ 16 (p - 1)) * 3) + (mi_sA σ 14 (mi_sA σ 16 (p - 1))))) S rfl rfl (List.mem_of_getElem? (i := 5) rfl) (by decide) (by omega) (by omega) rfl ?_
          refine ty_s_ci rfl rfl rfl rfl rfl rfl (mi_cal_v2 (np := 1) (args := [.ref 9, .int (Int32.ofInt (mi_sA σ 11 (((mi_sA σ 16 (p - 1)) * 3) + (mi_sA σ 14 (mi_sA σ 16 (p - 1))))))]) (rest := []) rfl rfl rfl rfl rfl (Nat.le_of_ble_eq_true rfl) rfl rfl (Nat.le_of_ble_eq_true rfl) (ty_rcS S (List.mem_of_getElem? (i := 5) rfl))) (Nat.le_of_ble_eq_true rfl) S (ty_find2 hk.1 hk.2) ?_
          intro x hh σu S f P
          obtain ⟨e1, e2⟩ := P
          rw [e2] at S
          rw [e1]
          clear e1 e2
          replace fr := mi_Fm_tr fr f
          refine mi_wp_p (pc' := 127) (l' := [(7, .int (Int32.ofInt (mi_sA σ 12 (mi_sA σ 11 (((mi_sA σ 16 (p - 1)) * 3) + (mi_sA σ 14 (mi_sA σ 16 (p - 1)))))))), (6, .int (Int32.ofInt (mi_sA σ 14 (mi_sA σ 16 (p - 1))))), (5, .int (Int32.ofInt (mi_sA σ 16 (p - 1)))), (4, .int (Int32.ofInt c)), (2, .int (Int32.ofInt p)), (3, .int (Int32.ofInt (4 * mi_sF σ0 9 8))), (0, .ref 9)]) (st' := []) rfl rfl rfl ?_
          refine mi_wp_p (pc' := 128) (st' := [.ref 9]) rfl rfl rfl ?_
          refine ty_s_gr S rfl rfl rfl (List.mem_of_getElem? (i := 19) rfl) ?_
          refine mi_wp_p (pc' := 133) (st' := [.int (Int32.ofInt (mi_sA σ 12 (mi_sA σ 11 (((mi_sA σ 16 (p - 1)) * 3) + (mi_sA σ 14 (mi_sA σ 16 (p - 1))))))), .ref 13]) rfl rfl rfl ?_
          refine ty_s_ald (x := mi_sA σ 13 (mi_sA σ 12 (mi_sA σ 11 (((mi_sA σ 16 (p - 1)) * 3) + (mi_sA σ 14 (mi_sA σ 16 (p - 1))))))) S rfl rfl (List.mem_of_getElem? (i := 7) rfl) (by decide) (by omega) (by omega) rfl ?_
          refine mi_wp_p (pc' := 135) (st' := [.int (Int32.ofInt 2), .int (Int32.ofInt (mi_sA σ 13 (mi_sA σ 12 (mi_sA σ 11 (((mi_sA σ 16 (p - 1)) * 3) + (mi_sA σ 14 (mi_sA σ 16 (p - 1))))))))]) rfl rfl rfl ?_
          refine mi_wp_p (pc' := 136) (st' := [.ref 9, .int (Int32.ofInt 2), .int (Int32.ofInt (mi_sA σ 13 (mi_sA σ 12 (mi_sA σ 11 (((mi_sA σ 16 (p - 1)) * 3) + (mi_sA σ 14 (mi_sA σ 16 (p - 1))))))))]) rfl rfl rfl ?_
          refine ty_s_gf (x := mi_sF σ 9 11) S rfl rfl rfl (List.mem_of_getElem? (i := 9) rfl) rfl ?_
          refine mi_s_mul rfl rfl ?_
          refine mi_s_if2 (t := 145) rfl rfl rfl (by unfold mi_R; omega) (by unfold mi_R; omega) ?_ ?_
          · intro (c5 : (mi_sA σ 13 (mi_sA σ 12 (mi_sA σ 11 (((mi_sA σ 16 (p - 1)) * 3) + (mi_sA σ 14 (mi_sA σ 16 (p - 1))))))) ≠ (2 * (mi_sF σ 9 11)))
            refine mi_wp_p (pc' := 146) (st' := [.ref 9]) rfl rfl rfl ?_
            refine mi_wp_p (pc' := 148) (st' := [.int (Int32.ofInt (mi_sA σ 12 (mi_sA σ 11 (((mi_sA σ 16 (p - 1)) * 3) + (mi_sA σ 14 (mi_sA σ 16 (p - 1))))))), .ref 9]) rfl rfl rfl ?_
            refine mi_wp_p (pc' := 149) (st' := [.int (Int32.ofInt p), .int (Int32.ofInt (mi_sA σ 12 (mi_sA σ 11 (((mi_sA σ 16 (p - 1)) * 3) + (mi_sA σ 14 (mi_sA σ 16 (p - 1))))))), .ref 9]) rfl rfl rfl ?_
            refine ty_s_ci rfl rfl rfl rfl rfl rfl (mi_cal_v2 (np := 2) (args := [.ref 9, .int (Int32.ofInt (mi_sA σ 12 (mi_sA σ 11 (((mi_sA σ 16 (p - 1)) * 3) + (mi_sA σ 14 (mi_sA σ 16 (p - 1))))))), .int (Int32.ofInt p)]) (rest := []) rfl rfl rfl rfl rfl (Nat.le_of_ble_eq_true rfl) rfl rfl (Nat.le_of_ble_eq_true rfl) (ty_rcS S (List.mem_of_getElem? (i := 5) rfl))) (Nat.le_of_ble_eq_true rfl) S (ty_enter hrr.1 hrr.2.1 (by omega) (by omega) ⟨by show 0 ≤ mi_sF σ 9 11; omega, by show mi_sF σ 9 11 ≤ 100000000; omega⟩ hsn) ?_
            intro x hh σ1 S f P
            replace fr := mi_Fm_tr fr f
            refine mi_wp_p (pc' := 153) (l' := [(2, .int (Int32.ofInt x)), (7, .int (Int32.ofInt (mi_sA σ 12 (mi_sA σ 11 (((mi_sA σ 16 (p - 1)) * 3) + (mi_sA σ 14 (mi_sA σ 16 (p - 1)))))))), (6, .int (Int32.ofInt (mi_sA σ 14 (mi_sA σ 16 (p - 1))))), (5, .int (Int32.ofInt (mi_sA σ 16 (p - 1)))), (4, .int (Int32.ofInt c)), (3, .int (Int32.ofInt (4 * mi_sF σ0 9 8))), (0, .ref 9)]) (st' := []) rfl rfl rfl ?_
            refine mi_s_inc (l' := [(4, .int (Int32.ofInt (c + 1))), (2, .int (Int32.ofInt x)), (7, .int (Int32.ofInt (mi_sA σ 12 (mi_sA σ 11 (((mi_sA σ 16 (p - 1)) * 3) + (mi_sA σ 14 (mi_sA σ 16 (p - 1)))))))), (6, .int (Int32.ofInt (mi_sA σ 14 (mi_sA σ 16 (p - 1))))), (5, .int (Int32.ofInt (mi_sA σ 16 (p - 1)))), (3, .int (Int32.ofInt (4 * mi_sF σ0 9 8))), (0, .ref 9)]) rfl rfl rfl (by decide) rfl ?_
            refine mi_wp_p (pc' := 21) rfl rfl rfl ?_
            refine mi_wp_lw (l := [(4, .int (Int32.ofInt (c + 1))), (2, .int (Int32.ofInt x)), (3, .int (Int32.ofInt (4 * mi_sF σ0 9 8))), (0, .ref 9)]) (mi_lw_of (show List.Nodup [4, 2, 3, 0] by decide) ⟨rfl, rfl, rfl, rfl, trivial⟩) ?_
            rcases P with ⟨q, e1, e2⟩ | ⟨q, q2, e1, e2⟩
            · obtain rfl := e1.symm
              obtain rfl := e2.symm
              refine ih _ ?_ _ p (c + 1) rfl (by omega) ⟨F1, ?_⟩ _ S fr
              · omega
              · refine ga_kid (sn := mi_sA σ 13) (nt := mi_sA σ 14) (pt := mi_sA σ 16) I hp ht (nt' := mi_sA (mi_uA σ 14 (mi_sA σ 16 (p - 1)) (mi_sA σ 14 (mi_sA σ 16 (p - 1)) + 1)) 14) ?_ (by simp [mi_AA]) (fun i hi => by simp [mi_AA, hi])
                rw [hKK]
                rcases q with q | q
                · exact Or.inl q
                · right
                  have q3 : 2 * mi_sF σ 9 11 ≤ mi_sA σ 13 (mi_sA σ 12 (mi_sA σ 11 ((mi_sA σ 16 (p - 1)) * 3 + mi_sA σ 14 (mi_sA σ 16 (p - 1))))) := q
                  have q4 : mi_sA σ 13 (mi_sA σ 12 (mi_sA σ 11 ((mi_sA σ 16 (p - 1)) * 3 + mi_sA σ 14 (mi_sA σ 16 (p - 1))))) ≠ 2 * mi_sF σ 9 11 := c5
                  omega
            · obtain rfl := e1.symm
              obtain rfl := e2.symm
              have q3 : mi_sA σ 13 (mi_sA σ 12 (mi_sA σ 11 ((mi_sA σ 16 (p - 1)) * 3 + mi_sA σ 14 (mi_sA σ 16 (p - 1))))) < 2 * mi_sF σ 9 11 := q2
              have hnk : mi_sA σ 16 (p - 1) ≠ mi_sA σ 12 (mi_sA σ 11 ((mi_sA σ 16 (p - 1)) * 3 + mi_sA σ 14 (mi_sA σ 16 (p - 1)))) := fun w => by
                have q4 : mi_sA σ 13 (mi_sA σ 16 (p - 1)) < 2 * mi_sF σ 9 11 := by
                  rw [w]
                  exact q3
                omega
              refine ih _ ?_ _ (p + 1) (c + 1) rfl (by omega) ⟨sg_Af_A (sg_Af_A (sg_Af_A F1 (by decide)) (by decide)) (by decide), ?_⟩ _ S fr
              · omega
              · refine ga_enter (nt := mi_sA σ 14) (pt := mi_sA σ 16) hK hρ hS I hp ht (kid := mi_sA σ 12 (mi_sA σ 11 ((mi_sA σ 16 (p - 1)) * 3 + mi_sA σ 14 (mi_sA σ 16 (p - 1))))) hKK q (by rw [← e11]; exact q3) (by rw [← e11]; simp [mi_AA, mi_AF, mi_FA]) (fun i hi => by simp [mi_AA, hi]) (by simp [mi_AA]) (by simp [mi_AA, hnk]) (fun i hi hi2 => by simp [mi_AA, hi, hi2]) (by simp [mi_AA]) (fun i hi => by simp [mi_AA, hi])
          · intro (c5 : ¬ ((mi_sA σ 13 (mi_sA σ 12 (mi_sA σ 11 (((mi_sA σ 16 (p - 1)) * 3) + (mi_sA σ 14 (mi_sA σ 16 (p - 1))))))) ≠ (2 * (mi_sF σ 9 11))))
            have hkn : mi_sA σ 13 (mi_sA σ 12 (mi_sA σ 11 ((mi_sA σ 16 (p - 1)) * 3 + mi_sA σ 14 (mi_sA σ 16 (p - 1))))) = 2 * mi_sF σ0 9 11 := by have := c5; omega
            refine mi_wp_p (pc' := 144) (st' := [.int (Int32.ofInt 0)]) rfl rfl rfl ?_
            exact ty_s_ret S fr rfl rfl rfl rfl ⟨_, rfl, F1, Or.inr ⟨rfl, ga_cyc I hK hp ht (by omega) (by rw [hKK]; exact hkn), fun n q0 q1 => ga_sn I q0 q1, ga_sn0 I⟩⟩
        · intro (c3 : ¬ ((mi_sA σ 14 (mi_sA σ 16 (p - 1))) < 3))
          refine mi_wp_p (pc' := 57) (st' := [.ref 9]) rfl rfl rfl ?_
          refine ty_s_gr S rfl rfl rfl (List.mem_of_getElem? (i := 19) rfl) ?_
          refine mi_wp_p (pc' := 62) (st' := [.int (Int32.ofInt (mi_sA σ 16 (p - 1))), .ref 13]) rfl rfl rfl ?_
          refine mi_wp_p (pc' := 63) (st' := [.int (Int32.ofInt 2), .int (Int32.ofInt (mi_sA σ 16 (p - 1))), .ref 13]) rfl rfl rfl ?_
          refine mi_wp_p (pc' := 64) (st' := [.ref 9, .int (Int32.ofInt 2), .int (Int32.ofInt (mi_sA σ 16 (p - 1))), .ref 13]) rfl rfl rfl ?_
          refine ty_s_gf (x := mi_sF σ 9 11) S rfl rfl rfl (List.mem_of_getElem? (i := 9) rfl) rfl ?_
          refine mi_s_mul rfl rfl ?_
          refine mi_wp_p (pc' := 69) (st' := [.int (Int32.ofInt 1), .int (Int32.ofInt (2 * (mi_sF σ 9 11))), .int (Int32.ofInt (mi_sA σ 16 (p - 1))), .ref 13]) rfl rfl rfl ?_
          refine mi_s_add rfl rfl ?_
          refine ty_s_ast S rfl rfl (List.mem_of_getElem? (i := 7) rfl) (by decide) (by decide) (by omega) (by omega) ?_
          intro h6 S f
          replace fr := mi_Fm_tr fr f
          refine mi_wp_p (pc' := 72) (st' := [.ref 9]) rfl rfl rfl ?_
          refine ty_s_gr S rfl rfl rfl (List.mem_of_getElem? (i := 21) rfl) ?_
          refine mi_wp_p (pc' := 76) (st' := [.ref 9, .ref 15]) rfl rfl rfl ?_
          refine ty_s_gf (x := mi_sF σ 9 10) S rfl rfl rfl (List.mem_of_getElem? (i := 8) rfl) rfl ?_
          refine mi_wp_p (pc' := 81) (st' := [.int (Int32.ofInt (mi_sA σ 16 (p - 1))), .int (Int32.ofInt (mi_sF σ 9 10)), .ref 15]) rfl rfl rfl ?_
          refine ty_s_ast S rfl rfl (List.mem_of_getElem? (i := 9) rfl) (by decide) (by decide) (by omega) (by omega) ?_
          intro h7 S f
          replace fr := mi_Fm_tr fr f
          refine mi_wp_p (pc' := 83) (st' := [.ref 9]) rfl rfl rfl ?_
          refine mi_wp_p (pc' := 84) (st' := [.ref 9, .ref 9]) rfl rfl rfl ?_
          refine ty_s_gf (x := mi_sF σ 9 10) S rfl rfl rfl (List.mem_of_getElem? (i := 8) rfl) rfl ?_
          refine mi_wp_p (pc' := 88) (st' := [.int (Int32.ofInt 1), .int (Int32.ofInt (mi_sF σ 9 10)), .ref 9]) rfl rfl rfl ?_
          refine mi_s_add rfl rfl ?_
          refine ty_s_pf S rfl rfl rfl (List.mem_of_getElem? (i := 8) rfl) (by decide) mi_fit_int (Or.inl rfl) ?_
          intro h8 S f
          replace fr := mi_Fm_tr fr f
          refine mi_s_inc (l' := [(2, .int (Int32.ofInt (p + (-1)))), (6, .int (Int32.ofInt (mi_sA σ 14 (mi_sA σ 16 (p - 1))))), (5, .int (Int32.ofInt (mi_sA σ 16 (p - 1)))), (4, .int (Int32.ofInt c)), (3, .int (Int32.ofInt (4 * mi_sF σ0 9 8))), (0, .ref 9)]) rfl rfl rfl (by decide) rfl ?_
          refine mi_wp_p (pc' := 153) rfl rfl rfl ?_
          refine mi_s_inc (l' := [(4, .int (Int32.ofInt (c + 1))), (2, .int (Int32.ofInt (p + (-1)))), (6, .int (Int32.ofInt (mi_sA σ 14 (mi_sA σ 16 (p - 1))))), (5, .int (Int32.ofInt (mi_sA σ 16 (p - 1)))), (3, .int (Int32.ofInt (4 * mi_sF σ0 9 8))), (0, .ref 9)]) rfl rfl rfl (by decide) rfl ?_
          refine mi_wp_p (pc' := 21) rfl rfl rfl ?_
          refine mi_wp_lw (l := [(4, .int (Int32.ofInt (c + 1))), (2, .int (Int32.ofInt (p + (-1)))), (3, .int (Int32.ofInt (4 * mi_sF σ0 9 8))), (0, .ref 9)]) (mi_lw_of (show List.Nodup [4, 2, 3, 0] by decide) ⟨rfl, rfl, rfl, rfl, trivial⟩) ?_
          refine ih _ ?_ _ (p + -1) (c + 1) rfl (by omega) ⟨sg_Af_F (sg_Af_A (sg_Af_A F (by decide)) (by decide)) (by decide), ?_⟩ _ S fr
          · omega
          · rw [show p + -1 = p - 1 by omega]
            exact ga_pop (nt := mi_sA σ 14) (pt := mi_sA σ 16) hK I hp (by omega) (by rw [← e11]; simp [mi_AA, mi_AF]) (fun i hi => by simp [mi_AA, mi_AF, hi]) (by simp [mi_AA, mi_AF]) (fun i hi => by simp [mi_AA, mi_AF, hi])
theorem ty_gather {X : mi_X} {d : Nat} {σ : mi_Sg} {nd : Int} {Sx : Int → Prop} (G : ty_G σ) (B : ga_S σ) (hz : 0 ≤ nd) (h1 : nd < mi_sF σ 9 8) (hS : ∀ n k, Sx n → 0 < n → n < mi_sF σ 9 8 → 0 ≤ k → k < 3 → ty_K' σ n k ≠ 0 → Sx (ty_K' σ n k)) (hS0 : mi_sA σ 12 nd ≠ 0 → Sx (mi_sA σ 12 nd)) : ty_Ci X (d + 1) mi_M130 [(0, .ref 9), (1, .int (Int32.ofInt nd))] σ (ga_Q Sx (mi_sA σ 12 nd) σ) := by
  intro h S
  have fr := mi_Fm_rf h
  have hu := ty_H_u S
  have hrr := ty_H_z S hz h1
  obtain ⟨hK, hρ⟩ := ga_K_r S G.2
  have G0 := G.1
  have hsn : 0 ≤ mi_sA σ 13 (mi_sA σ 12 nd) ∧ mi_sA σ 13 (mi_sA σ 12 nd) ≤ 2 * mi_sF σ 9 11 + 1 := by
    obtain ⟨pos, g0, ⟨b1, b2, b3, b4⟩, hn⟩ := B
    exact b3 _ hrr.1 hrr.2.1
  have hρ0 : mi_sA σ 12 nd ≠ 0 → mi_sA σ 12 (mi_sA σ 12 nd) = mi_sA σ 12 nd := fun q => (ty_H_r S (by
    by_cases e : nd = 0
    · rw [e] at q
      exact absurd hu.2.2.2 q
    · omega) h1).2.2
  refine mi_wp_p (pc' := 1) (st' := [.ref 9]) rfl rfl rfl ?_
  refine mi_wp_p (pc' := 2) (st' := [.ref 9, .ref 9]) rfl rfl rfl ?_
  refine mi_wp_p (pc' := 3) (st' := [.int (Int32.ofInt nd), .ref 9, .ref 9]) rfl rfl rfl ?_
  refine ty_s_ci rfl rfl rfl rfl rfl rfl (mi_cal_v2 (np := 1) (args := [.ref 9, .int (Int32.ofInt nd)]) (rest := [.ref 9]) rfl rfl rfl rfl rfl (Nat.le_of_ble_eq_true rfl) rfl rfl (Nat.le_of_ble_eq_true rfl) (ty_rcS S (List.mem_of_getElem? (i := 5) rfl))) (Nat.le_of_ble_eq_true rfl) S (ty_find2 hz h1) ?_
  intro x hh σu S f P
  obtain ⟨e1, e2⟩ := P
  rw [e2] at S
  rw [e1]
  clear e1 e2
  replace fr := mi_Fm_tr fr f
  refine mi_wp_p (pc' := 7) (st' := [.int (Int32.ofInt 0), .int (Int32.ofInt (mi_sA σ 12 nd)), .ref 9]) rfl rfl rfl ?_
  refine ty_s_ci rfl rfl rfl rfl rfl rfl (mi_cal_v2 (np := 2) (args := [.ref 9, .int (Int32.ofInt (mi_sA σ 12 nd)), .int (Int32.ofInt 0)]) (rest := []) rfl rfl rfl rfl rfl (Nat.le_of_ble_eq_true rfl) rfl rfl (Nat.le_of_ble_eq_true rfl) (ty_rcS S (List.mem_of_getElem? (i := 5) rfl))) (Nat.le_of_ble_eq_true rfl) S (ty_enter hrr.1 hrr.2.1 (by omega) (by omega) ⟨by omega, by omega⟩ hsn) ?_
  intro x hh σ1 S f P
  replace fr := mi_Fm_tr fr f
  refine mi_wp_p (pc' := 11) (l' := [(2, .int (Int32.ofInt x)), (0, .ref 9), (1, .int (Int32.ofInt nd))]) (st' := []) rfl rfl rfl ?_
  have e8x : mi_sF σ1 9 8 = mi_sF σ 9 8 := by rcases P with ⟨-, -, e2⟩ | ⟨-, -, -, e2⟩ <;> subst e2 <;> rfl
  refine mi_wp_p (pc' := 12) (st' := [.int (Int32.ofInt 4)]) rfl rfl rfl ?_
  refine mi_wp_p (pc' := 13) (st' := [.ref 9, .int (Int32.ofInt 4)]) rfl rfl rfl ?_
  refine ty_s_gf (x := mi_sF σ1 9 8) S rfl rfl rfl (List.mem_of_getElem? (i := 6) rfl) rfl ?_
  refine mi_s_mul rfl rfl ?_
  refine mi_wp_p (pc' := 18) (l' := [(3, .int (Int32.ofInt (4 * (mi_sF σ1 9 8)))), (2, .int (Int32.ofInt x)), (0, .ref 9), (1, .int (Int32.ofInt nd))]) (st' := []) rfl rfl rfl ?_
  refine mi_wp_p (pc' := 19) (st' := [.int (Int32.ofInt 0)]) rfl rfl rfl ?_
  refine mi_wp_p (pc' := 21) (l' := [(4, .int (Int32.ofInt 0)), (3, .int (Int32.ofInt (4 * (mi_sF σ1 9 8)))), (2, .int (Int32.ofInt x)), (0, .ref 9), (1, .int (Int32.ofInt nd))]) (st' := []) rfl rfl rfl ?_
  refine mi_wp_lw (l := [(4, .int (Int32.ofInt 0)), (2, .int (Int32.ofInt x)), (3, .int (Int32.ofInt (4 * (mi_sF σ1 9 8)))), (0, .ref 9)]) (mi_lw_of (show List.Nodup [4, 2, 3, 0] by decide) ⟨rfl, rfl, rfl, rfl, trivial⟩) ?_
  rcases P with ⟨q, e1, e2⟩ | ⟨q, q2, e1, e2⟩
  · obtain rfl := e1.symm
    obtain rfl := e2.symm
    refine ga_loop G hS hK hρ _ _ 0 0 rfl (by omega) (ga_J_0 B ?_) _ S fr
    rcases q with q | q
    · exact Or.inl q
    · refine Or.inr ?_
      have : mi_sA σ 12 nd = 0 ∨ mi_sA σ 13 (mi_sA σ 12 nd) ≠ 2 * mi_sF σ 9 11 := by
        by_cases e : mi_sA σ 12 nd = 0
        · exact Or.inl e
        · obtain ⟨pos, g0, B1, hn⟩ := B
          exact Or.inr (hn _ (by omega) hrr.2.1)
      rcases this with e | e
      · rw [e] at q hsn ⊢
        obtain ⟨pos, g0, ⟨b1, b2, b3, b4⟩, hn⟩ := B
        rw [b4] at q
        omega
      · omega
  · obtain rfl := e1.symm
    obtain rfl := e2.symm
    exact ga_loop G hS hK hρ _ _ 1 0 rfl (by omega) (ga_J_1 B (by omega) hrr.2.1 (hρ0 q) q2 (hS0 q)) _ S fr
