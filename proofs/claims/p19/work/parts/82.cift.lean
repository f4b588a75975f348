/-! ===== CI behind fits, forms, markUnknown; what else stays as it is ===== -/
section CI
variable {Sx : Int → Prop} {T : Int → tr} {σ σ' : mi_Sg} {ds : List (Int64 × tr)}
/-- marks alone: nothing changes them -/
theorem sb_fx {θ : Nat → tr} {tag : Int → Int} (f : fx tag θ) {e : tr} (h : ∀ v, vin v e → tag (v : Int) = 4) : sb θ e = e := by
  rw [sb_ext (η := .var) e (fun v hv => f v (h v hv))]
  exact sb_id e
theorem CI_ft {a b : Int} {h : mi_H} (C : CI Sx T σ ds) (h00 : mi_sA σ 12 0 = 0) (S : ty_H h σ') (Q : ft_Q Sx T a b σ 1 σ') : ∃ θ1 : Nat → tr, fx (mi_sA σ 10) θ1 ∧ (∀ θ, fx (mi_sA σ 10) θ → sb θ (T a) = sb θ (T b) → ∀ v : Nat, sb θ (θ1 v) = θ v) ∧ sb θ1 (T a) = sb θ1 (T b) ∧ CI (fun n => ens Sx σ' n ∧ wt (sb θ1 (T n))) (fun n => sb θ1 (T n)) σ' ds ∧ ∀ n, Sx n → wt (sb θ1 (T n)) → (ens Sx σ' (mi_sA σ' 12 n) ∧ wt (sb θ1 (T (mi_sA σ' 12 n)))) ∧ sb θ1 (T (mi_sA σ' 12 n)) = sb θ1 (T n) := by
  obtain ⟨c1, c2, c3, c4, c5, c6⟩ := C
  obtain ⟨θ1, f1, mg, u, HT, w⟩ := ft_T c1 c2 h00 S Q
  obtain ⟨F, -, Z, q4, q5, q6, -⟩ := Q
  have e10 : mi_sA σ' 10 = mi_sA σ 10 := sg_Af_Ak F (by decide)
  have e24 : mi_sA σ' 24 = mi_sA σ 24 := sg_Af_Ak F (by decide)
  have e23 : mi_sE σ' 23 = mi_sE σ 23 := sg_E F 23
  have e8 : mi_sF σ' 9 8 = mi_sF σ 9 8 := F.2.2 9 8 (by decide)
  have t1 : mi_sA σ 10 1 = 1 := by
    have g := (c1.2 1 c4.1.1)
    by_cases q : mi_sA σ 10 1 = 3 ∨ mi_sA σ 10 1 = 4
    · have := (g.2.2.2.2.1 q).1
      rw [c4.1.2] at this
      exact absurd this tn_var
    · have := g.2.2.2.2.2.1 (fun h => q (Or.inl h)) (fun h => q (Or.inr h))
      rw [c4.1.2] at this
      have := (tn_inj this).1
      have := g.2.2.1.1
      omega
  have t2 : mi_sA σ 10 2 = 2 := by
    have g := (c1.2 2 c4.2.1)
    by_cases q : mi_sA σ 10 2 = 3 ∨ mi_sA σ 10 2 = 4
    · have := (g.2.2.2.2.1 q).1
      rw [c4.2.2] at this
      exact absurd this tn_var
    · have := g.2.2.2.2.2.1 (fun h => q (Or.inl h)) (fun h => q (Or.inr h))
      rw [c4.2.2] at this
      have := (tn_inj this).1
      have := g.2.2.1.1
      omega
  have wk : ∀ n, Sx n → wt (sb θ1 (T n)) → (ens Sx σ' (mi_sA σ' 12 n) ∧ wt (sb θ1 (T (mi_sA σ' 12 n)))) ∧ sb θ1 (T (mi_sA σ' 12 n)) = sb θ1 (T n) := fun n hn hw => by
    have z := w n hn
    exact ⟨⟨z.1, by rw [z.2]; exact hw⟩, z.2⟩
  refine ⟨θ1, f1, mg, u, ⟨ty_T_wt HT, Z, fun n hn => hn.2, ⟨⟨⟨⟨c4.1.1, q6 1 c4.1.1 (Or.inl (by omega))⟩, ?_⟩, ?_⟩, ⟨⟨⟨c4.2.1, q6 2 c4.2.1 (Or.inl (by omega))⟩, ?_⟩, ?_⟩⟩, fun n hn => c5 n hn.1.1, fun i q hq => ?_⟩, wk⟩
  · show wt (sb θ1 (T 1))
    rw [c4.1.2]; exact wt_1
  · show sb θ1 (T 1) = _
    rw [c4.1.2]; rfl
  · show wt (sb θ1 (T 2))
    rw [c4.2.2]; exact wt_2
  · show sb θ1 (T 2) = _
    rw [c4.2.2]; rfl
  · obtain ⟨d1, d2, d3, d4, d5, d6⟩ := c6 i q hq
    have es : sb θ1 q.2 = q.2 := sb_fx f1 d6
    have z := wk _ d3 (by rw [d4, es]; exact d5)
    rw [e24, e23, e10, e8, q5 _ d2.1 d2.2]
    exact ⟨d1, d2, z.1, by show sb θ1 (T _) = _; rw [z.2, d4, es], d5, d6⟩
/-- behind the steps of a form -/
theorem CI_FR {S2 : Int → Prop} {T2 : Int → tr} {e : tr} {r : Int} (C : CI Sx T σ ds) (hu0 : 13 ≤ mi_sF σ 9 8) (R : FR Sx T σ S2 T2 σ' 0 e r) (hv : 0 ≤ mi_sF σ 48 7) (hw : wt e) : CI (fun n => S2 n ∧ wt (T2 n)) T2 σ' ds ∧ (∀ n, Sx n → (S2 n ∧ wt (T2 n)) ∧ T2 n = T n) ∧ (S2 (mi_sA σ' 51 (mi_sF σ 48 7)) ∧ wt (T2 (mi_sA σ' 51 (mi_sF σ 48 7)))) ∧ T2 (mi_sA σ' 51 (mi_sF σ 48 7)) = sb (mkv σ') e := by
  obtain ⟨R1, R2, R3, R4, R5, R6, R7, R8, R9, R10, R11⟩ := R
  obtain ⟨c1, c2, c3, c4, c5, c6⟩ := C
  have X := R3.2.1
  have F := R3.1
  have rg : ∀ n, Sx n → 0 ≤ n ∧ n < mi_sF σ 9 8 := fun n hn => by
    have := (c1.2 n hn).1
    omega
  have keep : ∀ n, Sx n → (S2 n ∧ wt (T2 n)) ∧ T2 n = T n := fun n hn => by
    have e := R5 n (rg n hn).1 (rg n hn).2
    exact ⟨⟨R4 n hn, by rw [e]; exact c3 n hn⟩, e⟩
  have e8 : mi_sF σ 48 7 - 0 = mi_sF σ 48 7 := by omega
  rw [e8] at R8
  refine ⟨⟨ty_T_wt R1.1, R1.2.1, fun n hn => hn.2, ⟨⟨(keep 1 c4.1.1).1, (keep 1 c4.1.1).2.trans c4.1.2⟩, ⟨(keep 2 c4.2.1).1, (keep 2 c4.2.1).2.trans c4.2.2⟩⟩, fun n hn => ?_, fun i q hq => ?_⟩, keep, ⟨R2 _ hv (by omega), ?_⟩, R8⟩
  · rcases R11 n hn.1 with h | h
    · exact c5 n h
    · omega
  · obtain ⟨q1, q2, q3, q4, q5, q6⟩ := c6 i q hq
    have e24 : mi_sA σ' 24 = mi_sA σ 24 := sg_Af_Ak F (by decide)
    have e23 : mi_sE σ' 23 = mi_sE σ 23 := sg_E F 23
    rw [e24, e23, (X.2.1 _ q2.1 q2.2).2.1]
    refine ⟨q1, ⟨q2.1, by have := X.1; omega⟩, (keep _ q3).1, (keep _ q3).2.trans q4, q5, fun v hv => ?_⟩
    have hv' : vin v (T (mi_sA σ 12 (mi_sA σ 24 (i : Int)))) := by rw [q4]; exact hv
    have z := (c1.2 _ (ty_T_vin c1 _ _ rfl q3 hv').1).1
    rw [(X.2.1 _ z.1 z.2).1]
    exact q6 v hv
  · rw [R8]
    exact wt_sb _ _ rfl hw fun v _ => True.intro
/-- unknowns that became marks -/
theorem CI_mu (C : CI Sx T σ ds) (Z : ty_Z σ') (e8 : mi_sF σ' 9 8 = mi_sF σ 9 8) (e11 : mi_sA σ' 11 = mi_sA σ 11) (e12 : mi_sA σ' 12 = mi_sA σ 12) (e24 : mi_sA σ' 24 = mi_sA σ 24) (e23 : mi_sE σ' 23 = mi_sE σ 23) (h : ∀ n, 0 < n → n < mi_sF σ 9 8 → mi_sA σ' 10 n = mi_sA σ 10 n ∨ (mi_sA σ 10 n = 3 ∧ mi_sA σ' 10 n = 4)) : CI Sx T σ' ds := by
  obtain ⟨c1, c2, c3, c4, c5, c6⟩ := C
  refine ⟨ty_T_mu c1 e8 e11 e12 h, Z, c3, c4, c5, fun i q hq => ?_⟩
  obtain ⟨q1, q2, q3, q4, q5, q6⟩ := c6 i q hq
  rw [e23, e24, e8, e12]
  refine ⟨q1, q2, q3, q4, q5, fun v hv => ?_⟩
  have hv' : vin v (T (mi_sA σ 12 (mi_sA σ 24 (i : Int)))) := by rw [q4]; exact hv
  have z := (c1.2 _ (ty_T_vin c1 _ _ rfl q3 hv').1).1
  rcases h _ z.1 z.2 with e | e
  · rw [e]; exact q6 v hv
  · exact e.2
theorem ga_S_Z (B : ga_S σ) (G : ∀ n k, 0 < n → n < mi_sF σ 9 8 → 0 ≤ k → k < 3 → 0 ≤ ty_k σ n k ∧ ty_k σ n k < mi_sF σ 9 8) (h0 : 0 ≤ mi_sF σ 9 11) (t0 : mi_sA σ 10 0 = 0) : ty_Z σ := by
  obtain ⟨pos, p0, ⟨b1, b2, b3, b4⟩, p2⟩ := B
  exact ⟨h0, G, b3, b4, t0⟩
/-- behind markUnknown in a fresh round: marks alone stand in the type -/
theorem mu_marks {x0 : Int} (c1 : ty_T σ Sx T) (M : mu_Q Sx x0 σ σ') (n13 : ∀ n, Sx n → 0 < n → n < mi_sF σ 9 8 → mi_sA σ 13 n = 2 * mi_sF σ 9 11 + 1 → mi_sA σ 10 n ≠ 3) : ∀ (m : Nat) (n : Int), (ns (T n)).toNat = m → Sx n → mi_sA σ' 13 n = 2 * mi_sF σ 9 11 + 1 → ∀ v, vin v (T n) → mi_sA σ' 10 (v : Int) = 4 := by
  obtain ⟨F, B, t, t0, r, k3, kk⟩ := M
  intro m
  induction m using Nat.strongRecOn with
  | ind m ih =>
  intro n hm hn hb v hv
  obtain ⟨g1, g2, g3, g4, g5, g6, g7⟩ := c1.2 n hn
  by_cases q : mi_sA σ 10 n = 3 ∨ mi_sA σ 10 n = 4
  · rw [(g5 q).1] at hv
    have hv' : n.toNat = v := hv
    have e2 : (v : Int) = n := by omega
    rw [e2]
    have a := k3 n g1.1 g1.2 hb
    have b := t n g1.1 g1.2
    have c := n13 n hn g1.1 g1.2
    rcases a with a | a
    · have := c a
      omega
    · omega
  · have e := g6 (fun h => q (Or.inl h)) (fun h => q (Or.inr h))
    have nt := ns_tn (mi_sA σ 10 n) (T (ty_K' σ n 0)) (T (ty_K' σ n 1)) (T (ty_K' σ n 2))
    rw [← e] at nt
    rw [e, vin_tn] at hv
    have kid : ∀ k, 0 ≤ k → k < 3 → ns (T (ty_K' σ n k)) < ns (T n) → vin v (T (ty_K' σ n k)) → mi_sA σ' 10 (v : Int) = 4 := fun k k0 k1 hl hk => by
      rcases g4 k k0 k1 with e' | e'
      · rw [e', c1.1] at hk
        exact hk.elim
      · refine ih _ (by have := ns_0 (T (ty_K' σ n k)); omega) _ rfl e' ?_ v hk
        rcases kk n k g1.1 g1.2 hb k0 k1 with z | z
        · rw [z] at e'
          have := (c1.2 0 e').1
          omega
        · exact z
    rcases hv with h | h | h
    · exact kid 0 (by omega) (by omega) nt.1 h
    · exact kid 1 (by omega) (by omega) nt.2.1 h
    · exact kid 2 (by omega) (by omega) nt.2.2 h
end CI
/-! what the steps of the checker leave as it is -/
def kfA : List Nat := [10, 11, 12, 13, 14, 15, 16, 24, 25, 33, 46, 47, 49, 50, 51]
def kfF : List (Nat × Nat) := [(9, 8), (9, 10), (9, 11), (17, 14), (43, 7), (43, 9), (43, 10), (43, 11), (44, 3), (48, 7), (48, 8), (48, 9)]
def KF (σ σ' : mi_Sg) : Prop := (∀ (k : Nat) (i : Int), k ∉ kfA → mi_sA σ' k i = mi_sA σ k i) ∧ (∀ k j : Nat, (k, j) ∉ kfF → mi_sF σ' k j = mi_sF σ k j) ∧ (∀ (k : Nat) (i : Int), k ≠ 23 → k ≠ 45 → mi_sE σ' k i = mi_sE σ k i) ∧ ∀ i, 3 ≤ i → i < 39 → mi_sA σ' 11 i = mi_sA σ 11 i
section KF
variable {σ σ1 σ' : mi_Sg} {k j : Nat} {i x : Int} {y : Int64}
theorem KF_rf : KF σ σ := ⟨fun _ _ _ => rfl, fun _ _ _ => rfl, fun _ _ _ _ => rfl, fun _ _ _ => rfl⟩
theorem KF_tr (p : KF σ σ1) (q : KF σ1 σ') : KF σ σ' := ⟨fun k i h => (q.1 k i h).trans (p.1 k i h), fun k j h => (q.2.1 k j h).trans (p.2.1 k j h), fun k i h h' => (q.2.2.1 k i h h').trans (p.2.2.1 k i h h'), fun i a b => (q.2.2.2 i a b).trans (p.2.2.2 i a b)⟩
theorem KF_sg {ks : List Nat} {fs : List (Nat × Nat)} (F : sg_Af ks fs σ σ') (h1 : ∀ k ∈ ks, k ∈ kfA) (h2 : ∀ k ∈ fs, k ∈ kfF) (h3 : 11 ∉ ks := by decide) : KF σ σ' := ⟨fun k i h => F.2.1 k i (fun q => h (h1 k q)), fun k j h => F.2.2 k j (fun q => h (h2 _ q)), fun k i _ _ => by rw [sg_E F k], fun i _ _ => F.2.1 11 i h3⟩
/-- where nodes were made -/
theorem KF_sx {ks : List Nat} {fs : List (Nat × Nat)} (F : sg_Af ks fs σ σ') (X : ty_X σ σ') (hu : 13 ≤ mi_sF σ 9 8) (h1 : ∀ k ∈ ks, k ∈ kfA) (h2 : ∀ k ∈ fs, k ∈ kfF) : KF σ σ' := ⟨fun k i h => F.2.1 k i (fun q => h (h1 k q)), fun k j h => F.2.2 k j (fun q => h (h2 _ q)), fun k i _ _ => by rw [sg_E F k], fun i a b => by
  have := (X.2.1 (i / 3) (by omega) (by omega)).2.2 (i % 3) (by omega) (by omega)
  unfold ty_k at this
  rw [show i / 3 * 3 + i % 3 = i by omega] at this
  exact this⟩
theorem KF_uA (p : KF σ σ') (h : k ∈ kfA) (h3 : 11 ≠ k := by decide) : KF σ (mi_uA σ' k i x) := ⟨fun k' i' h' => by
  rw [mi_AA, if_neg (fun q => h' (by rw [q.1]; exact h))]
  exact p.1 k' i' h', fun k' j' h' => p.2.1 k' j' h', fun k' i' a b => p.2.2.1 k' i' a b, fun i' a b => by
  rw [mi_AA, if_neg (fun q => h3 q.1)]
  exact p.2.2.2 i' a b⟩
theorem KF_uF (p : KF σ σ') (h : (k, j) ∈ kfF) : KF σ (mi_uF σ' k j x) := ⟨fun k' i' h' => p.1 k' i' h', fun k' j' h' => by
  rw [mi_FF, if_neg (fun q => h' (by rw [q.1, q.2]; exact h))]
  exact p.2.1 k' j' h', fun k' i' a b => p.2.2.1 k' i' a b, fun i' a b => p.2.2.2 i' a b⟩
theorem KF_uB (p : KF σ σ') : KF σ (mi_uB σ' k j y) := ⟨fun k' i' h' => p.1 k' i' h', fun k' j' h' => p.2.1 k' j' h', fun k' i' a b => p.2.2.1 k' i' a b, fun i' a b => p.2.2.2 i' a b⟩
theorem KF_uE (p : KF σ σ') (h : k = 23 ∨ k = 45) : KF σ (mi_uE σ' k i y) := ⟨fun k' i' h' => p.1 k' i' h', fun k' j' h' => p.2.1 k' j' h', fun k' i' a b => by
  rw [mi_EE, if_neg (fun q => by rcases h with e | e <;> omega)]
  exact p.2.2.1 k' i' a b, fun i' a b => p.2.2.2 i' a b⟩
/-- what holds between the steps -/
def GI (σ : mi_Sg) (E : Int → Int64) (N : Int) : Prop := (kb σ ∧ mi_sF σ 2 0 = 0 ∧ mi_sF σ 3 7 = N ∧ N ≤ 301) ∧ mi_sF σ 43 6 = 26 ∧ mi_sF σ 9 9 = 13 ∧ mi_sE σ 8 = E
theorem GI_K {E : Int → Int64} {N : Int} (g : GI σ E N) (K : KF σ σ') : GI σ' E N := by
  obtain ⟨⟨⟨b1, b2, b3, b4, b5, b6, b7⟩, g2, g3, g4⟩, g5, g6, g7⟩ := g
  refine ⟨⟨⟨(K.2.1 17 12 (by decide)).trans b1, (K.2.2.1 18 0 (by decide) (by decide)).trans b2, (K.2.2.1 18 1 (by decide) (by decide)).trans b3, (K.2.2.1 18 2 (by decide) (by decide)).trans b4, (K.1 19 0 (by decide)).trans b5, (K.1 19 1 (by decide)).trans b6, (K.1 19 2 (by decide)).trans b7⟩, (K.2.1 2 0 (by decide)).trans g2, (K.2.1 3 7 (by decide)).trans g3, g4⟩, (K.2.1 43 6 (by decide)).trans g5, (K.2.1 9 9 (by decide)).trans g6, ?_⟩
  rw [← g7]
  exact funext fun i => K.2.2.1 8 i (by decide) (by decide)
theorem ST_K {s : Int} {l : List (Int × Int × Int)} (K : KF σ σ') (h : ST σ s l) : ST σ' s l := by
  obtain ⟨⟨a, b, c⟩, d⟩ := h
  have e := K.2.1 26 7 (by decide)
  refine ⟨⟨a, by rw [e]; exact b, by rw [e]; exact c⟩, fun i q hq => ?_⟩
  rw [K.1 27 _ (by decide), K.1 28 _ (by decide), K.1 29 _ (by decide)]
  exact d i q hq
end KF
