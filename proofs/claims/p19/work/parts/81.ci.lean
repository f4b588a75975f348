/-! ===== what stands between the steps of the checker: nodes for all types that are known ===== -/
/-- the definitions so far: each one's key and its type's tree; marks alone stand in them -/
def KD (Sx : Int → Prop) (T : Int → tr) (σ : mi_Sg) (ds : List (Int64 × tr)) : Prop := ∀ (i : Nat) (q : Int64 × tr), ds[i]? = some q → mi_sE σ 23 (i : Int) = q.1 ∧ (0 < mi_sA σ 24 (i : Int) ∧ mi_sA σ 24 (i : Int) < mi_sF σ 9 8) ∧ Sx (mi_sA σ 12 (mi_sA σ 24 (i : Int))) ∧ T (mi_sA σ 12 (mi_sA σ 24 (i : Int))) = q.2 ∧ wt q.2 ∧ ∀ v, vin v q.2 → mi_sA σ 10 (v : Int) = 4
def CI (Sx : Int → Prop) (T : Int → tr) (σ : mi_Sg) (ds : List (Int64 × tr)) : Prop := ty_T σ Sx T ∧ ty_Z σ ∧ (∀ n, Sx n → wt (T n)) ∧ ((Sx 1 ∧ T 1 = tn 1 tr_0 tr_0 tr_0) ∧ (Sx 2 ∧ T 2 = tn 2 tr_0 tr_0 tr_0)) ∧ (∀ n, Sx n → n ≤ 2 ∨ 13 ≤ n) ∧ KD Sx T σ ds
section CI
variable {Sx : Int → Prop} {T : Int → tr} {σ σ' : mi_Sg} {ds : List (Int64 × tr)}
/-- the rows of the nodes and of the definitions are the same -/
def KS (σ σ' : mi_Sg) : Prop := (mi_sF σ' 9 8 = mi_sF σ 9 8 ∧ mi_sF σ' 9 11 = mi_sF σ 9 11) ∧ mi_sA σ' 10 = mi_sA σ 10 ∧ mi_sA σ' 11 = mi_sA σ 11 ∧ mi_sA σ' 12 = mi_sA σ 12 ∧ mi_sA σ' 13 = mi_sA σ 13 ∧ mi_sA σ' 24 = mi_sA σ 24 ∧ mi_sE σ' 23 = mi_sE σ 23
theorem KS_Z (K : KS σ σ') (Z : ty_Z σ) : ty_Z σ' := by
  obtain ⟨⟨a, b⟩, c, d, e, f, -⟩ := K
  unfold ty_Z ty_k at Z ⊢
  rw [a, b, c, d, f]
  exact Z
theorem CI_z (C : CI Sx T σ ds) (Z : ty_Z σ') (e8 : mi_sF σ' 9 8 = mi_sF σ 9 8) (e10 : mi_sA σ' 10 = mi_sA σ 10) (e11 : mi_sA σ' 11 = mi_sA σ 11) (e12 : mi_sA σ' 12 = mi_sA σ 12) (e24 : mi_sA σ' 24 = mi_sA σ 24) (e23 : mi_sE σ' 23 = mi_sE σ 23) : CI Sx T σ' ds := by
  obtain ⟨c1, -, c3, c4, c5, c6⟩ := C
  refine ⟨ty_T_f c1 e8 e10 e11 e12, Z, c3, c4, c5, ?_⟩
  unfold KD
  rw [e8, e10, e12, e24, e23]
  exact c6
theorem CI_s (C : CI Sx T σ ds) (K : KS σ σ') : CI Sx T σ' ds := by
  have Z := KS_Z K C.2.1
  obtain ⟨⟨a, b⟩, c, d, e, f, g, i⟩ := K
  exact CI_z C Z a c d e g i
theorem sg_E {ks : List Nat} {fs : List (Nat × Nat)} (F : sg_Af ks fs σ σ') (k : Nat) : mi_sE σ' k = mi_sE σ k := by
  unfold mi_sE
  rw [F.1]
theorem KS_sg {ks : List Nat} {fs : List (Nat × Nat)} (F : sg_Af ks fs σ σ') (h : ∀ k ∈ [10, 11, 12, 13, 24], k ∉ ks) (h1 : (9, 8) ∉ fs) (h2 : (9, 11) ∉ fs) : KS σ σ' := ⟨⟨F.2.2 9 8 h1, F.2.2 9 11 h2⟩, sg_Af_Ak F (h 10 (by decide)), sg_Af_Ak F (h 11 (by decide)), sg_Af_Ak F (h 12 (by decide)), sg_Af_Ak F (h 13 (by decide)), sg_Af_Ak F (h 24 (by decide)), sg_E F 23⟩
theorem KS_tr {σ1 : mi_Sg} (p : KS σ σ1) (q : KS σ1 σ') : KS σ σ' := by
  obtain ⟨⟨a, b⟩, c, d, e, f, g, i⟩ := p
  obtain ⟨⟨a', b'⟩, c', d', e', f', g', i'⟩ := q
  exact ⟨⟨a'.trans a, b'.trans b⟩, c'.trans c, d'.trans d, e'.trans e, f'.trans f, g'.trans g, i'.trans i⟩
/-- measured: a round more -/
theorem CI_M (C : CI Sx T σ ds) (M : ty_M σ σ') : CI Sx T σ' ds := CI_z C M.2.2 (M.1.2.2 9 8 (by decide)) (sg_Af_Ak M.1 (by decide)) (sg_Af_Ak M.1 (by decide)) (sg_Af_Ak M.1 (by decide)) (sg_Af_Ak M.1 (by decide)) (sg_E M.1 23)
/-- less nodes -/
theorem CI_sub (C : CI Sx T σ ds) (P : tr → Prop) (hP : ∀ n k, Sx n → P (T n) → 0 ≤ k → k < 3 → Sx (ty_K' σ n k) → P (T (ty_K' σ n k))) (h1 : P (tn 1 tr_0 tr_0 tr_0)) (h2 : P (tn 2 tr_0 tr_0 tr_0)) (hd : ∀ (i : Nat) (q : Int64 × tr), ds[i]? = some q → P q.2) : CI (fun n => Sx n ∧ P (T n)) T σ ds := by
  obtain ⟨c1, c2, c3, c4, c5, c6⟩ := C
  refine ⟨ty_T_sub c1 P hP, c2, fun n hn => c3 n hn.1, ⟨⟨⟨c4.1.1, ?_⟩, c4.1.2⟩, ⟨⟨c4.2.1, ?_⟩, c4.2.2⟩⟩, fun n hn => c5 n hn.1, fun i q hq => ?_⟩
  · show P (T 1)
    rw [c4.1.2]; exact h1
  · show P (T 2)
    rw [c4.2.2]; exact h2
  · obtain ⟨k1, k2, k3, k4, k5, k6⟩ := c6 i q hq
    exact ⟨k1, k2, ⟨k3, by show P (T _); rw [k4]; exact hd i q hq⟩, k4, k5, k6⟩
/-- a node is made -/
theorem CI_mk {g a b : Int} {e : tr} (C : CI Sx T σ ds) (h0 : mi_sA σ 12 0 = 0) (hu0 : 13 ≤ mi_sF σ 9 8) (hg : (g = 3 ∧ a = 0 ∧ b = 0 ∧ e = .var (mi_sF σ 9 8).toNat) ∨ ((g = 5 ∨ g = 6) ∧ Sx a ∧ Sx b ∧ e = tn g (T a) (T b) tr_0)) : CI (fun n => Sx n ∨ n = mi_sF σ 9 8) (fun n => if n = mi_sF σ 9 8 then e else T n) (ty_mk σ g a b 0) ds := by
  obtain ⟨c1, c2, c3, c4, c5, c6⟩ := C
  have hu : 0 < mi_sF σ 9 8 := by omega
  have ra : a = 0 ∨ ((0 < a ∧ a < mi_sF σ 9 8) ∧ mi_sA σ 12 a = a) := by
    rcases hg with h | h
    · exact Or.inl h.2.1
    · have := c1.2 a h.2.1
      exact Or.inr ⟨this.1, this.2.1⟩
  have rb : b = 0 ∨ ((0 < b ∧ b < mi_sF σ 9 8) ∧ mi_sA σ 12 b = b) := by
    rcases hg with h | h
    · exact Or.inl h.2.2.1
    · have := c1.2 b h.2.2.1
      exact Or.inr ⟨this.1, this.2.1⟩
  have ra' : 0 ≤ a ∧ a < mi_sF σ 9 8 := by omega
  have rb' : 0 ≤ b ∧ b < mi_sF σ 9 8 := by omega
  obtain ⟨X, m1, m2, m3, m4, m5, m6, m7, m8, m9⟩ := ty_mk_X (σ := σ) (g := g) (a := a) (b := b) (c := 0) hu
  have F := ty_mk_F (σ := σ) (g := g) (a := a) (b := b) (c := 0)
  have k0 : ty_K' (ty_mk σ g a b 0) (mi_sF σ 9 8) 0 = a := ty_mk_K hu h0 (Or.inl ⟨rfl, rfl⟩) ra
  have k1 : ty_K' (ty_mk σ g a b 0) (mi_sF σ 9 8) 1 = b := ty_mk_K hu h0 (Or.inr (Or.inl ⟨rfl, rfl⟩)) rb
  have k2 : ty_K' (ty_mk σ g a b 0) (mi_sF σ 9 8) 2 = 0 := ty_mk_K hu h0 (Or.inr (Or.inr ⟨rfl, rfl⟩)) (Or.inl rfl)
  have HT := ty_X_T (T' := fun n => if n = mi_sF σ 9 8 then e else T n) hu X c2.2.1 c1 (fun n p q => if_neg (by omega))
  have na : a ≠ mi_sF σ 9 8 := by omega
  have nb : b ≠ mi_sF σ 9 8 := by omega
  have old : ∀ n, n < mi_sF σ 9 8 → (fun n => if n = mi_sF σ 9 8 then e else T n) n = T n := fun n h => if_neg (by omega)
  refine ⟨⟨HT.1, fun n hn => ?_⟩, ty_mk_Z c2 hu ra' rb' ⟨by omega, hu⟩, fun n hn => ?_, ⟨⟨Or.inl c4.1.1, ?_⟩, ⟨Or.inl c4.2.1, ?_⟩⟩, fun n hn => ?_, fun i q hq => ?_⟩
  · by_cases e1 : n = mi_sF σ 9 8
    · rw [e1]
      refine ⟨by omega, m2, ⟨by rw [m1]; omega, fun q => by rw [m1] at q; omega⟩, fun k q0 q1 => ?_, fun q => ?_, fun q1 q2 => ?_, fun k q0 q1 => ?_⟩
      · rcases hg with h | h
        · left
          obtain rfl | rfl | rfl : k = 0 ∨ k = 1 ∨ k = 2 := by omega
          · rw [k0]; exact h.2.1
          · rw [k1]; exact h.2.2.1
          · exact k2
        · obtain rfl | rfl | rfl : k = 0 ∨ k = 1 ∨ k = 2 := by omega
          · rw [k0]; exact Or.inr (Or.inl h.2.1)
          · rw [k1]; exact Or.inr (Or.inl h.2.2.1)
          · exact Or.inl k2
      · rw [m1] at q
        rcases hg with h | h
        · refine ⟨?_, fun k q0 q1 => ?_⟩
          · dsimp only
            rw [if_pos rfl]; exact h.2.2.2
          · obtain rfl | rfl | rfl : k = 0 ∨ k = 1 ∨ k = 2 := by omega
            · rw [k0]; exact h.2.1
            · rw [k1]; exact h.2.2.1
            · exact k2
        · omega
      · rw [m1] at q1 q2
        rcases hg with h | h
        · omega
        · rw [m1, k0, k1, k2]
          dsimp only
          rw [if_pos rfl, if_neg na, if_neg nb, if_neg (by omega), c1.1]
          exact h.2.2.2
      · rw [m1]
        rcases hg with h | h
        · have z : ar g = 0 := by rw [h.1]; rfl
          rw [z]
          obtain rfl | rfl | rfl : k = 0 ∨ k = 1 ∨ k = 2 := by omega
          · rw [k0, h.2.1]; exact ⟨fun _ => by omega, fun _ => rfl⟩
          · rw [k1, h.2.2.1]; exact ⟨fun _ => by omega, fun _ => rfl⟩
          · rw [k2]; exact ⟨fun _ => by omega, fun _ => rfl⟩
        · have z : ar g = 2 := by rcases h.1 with r | r <;> (rw [r]; rfl)
          have pa := (c1.2 a h.2.1).1
          have pb := (c1.2 b h.2.2.1).1
          rw [z]
          obtain rfl | rfl | rfl : k = 0 ∨ k = 1 ∨ k = 2 := by omega
          · rw [k0]; omega
          · rw [k1]; omega
          · rw [k2]; omega
    · obtain ⟨g1, g2, g3, g4, g5, g6, g7⟩ := HT.2 n (hn.resolve_right e1)
      exact ⟨g1, g2, g3, fun k q0 q1 => (g4 k q0 q1).imp id Or.inl, g5, g6, g7⟩
  · by_cases e1 : n = mi_sF σ 9 8
    · dsimp only
      rw [if_pos e1]
      rcases hg with h | h
      · rw [h.2.2.2]; exact True.intro
      · rw [h.2.2.2]
        rcases h.1 with r | r
        · rw [r]; exact wt_5.2 ⟨c3 a h.2.1, c3 b h.2.2.1⟩
        · rw [r]; exact wt_6.2 ⟨c3 a h.2.1, c3 b h.2.2.1⟩
    · dsimp only
      rw [if_neg e1]; exact c3 n (hn.resolve_right e1)
  · dsimp only
    rw [if_neg (by omega)]; exact c4.1.2
  · dsimp only
    rw [if_neg (by omega)]; exact c4.2.2
  · rcases hn with h | h
    · exact c5 n h
    · omega
  · obtain ⟨q1, q2, q3, q4, q5, q6⟩ := c6 i q hq
    have e24 : mi_sA (ty_mk σ g a b 0) 24 = mi_sA σ 24 := sg_Af_Ak F (by decide)
    have e23 : mi_sE (ty_mk σ g a b 0) 23 = mi_sE σ 23 := sg_E F 23
    have p3 := (c1.2 _ q3).1
    rw [e24, e23, (X.2.1 _ q2.1 q2.2).2.1]
    refine ⟨q1, by omega, Or.inl q3, ?_, q5, fun v hv => ?_⟩
    · dsimp only
      rw [if_neg (by omega)]; exact q4
    · have hv' : vin v (T (mi_sA σ 12 (mi_sA σ 24 (i : Int)))) := by rw [q4]; exact hv
      have z := (c1.2 _ (ty_T_vin c1 _ _ rfl q3 hv').1).1
      rw [(X.2.1 _ z.1 z.2).1]
      exact q6 v hv
/-- a type is copied -/
theorem CI_cp {stay x0 x : Int} (C : CI Sx T σ ds) (hu0 : 13 ≤ mi_sF σ 9 8) (hf : 13 ≤ mi_sF σ 9 9) (hx0 : Sx x0) (Q : cp_Q stay x0 T σ x σ') : ∃ (S' : Int → Prop) (T' : Int → tr) (ν : Int → Int), CI S' T' σ' ds ∧ (∀ n, Sx n → S' n ∧ T' n = T n) ∧ S' x ∧ T' x = sb (cp_t stay σ ν) (T x0) ∧ (stay = 0 → ∀ v, vin v (T x0) → mi_sA σ 10 (v : Int) = 4 → mi_sF σ 9 8 ≤ ν (v : Int) ∧ mi_sA σ' 10 (ν (v : Int)) = 3) ∧ (stay = 0 → ∀ v w, vin v (T x0) → vin w (T x0) → mi_sA σ 10 (v : Int) = 4 → mi_sA σ 10 (w : Int) = 4 → ν (v : Int) = ν (w : Int) → v = w) := by
  obtain ⟨S2, T2, ν, X, F, f11, Z, eT, f8, HT, hx, ex, n1, n2, lo⟩ := Q
  obtain ⟨c1, c2, c3, c4, c5, c6⟩ := C
  have hu : 0 < mi_sF σ 9 8 := by omega
  have H0 := ty_X_T hu X c2.2.1 c1 eT
  have H1 := ty_T_wt (ty_T_or H0 HT)
  have H2 := ty_T_vs H1 (fun v => 13 ≤ v)
  have rg : ∀ n, Sx n → 0 ≤ n ∧ n < mi_sF σ 9 8 := fun n hn => by
    have := (c1.2 n hn).1
    omega
  have lv : ∀ n, Sx n → ∀ v, vin v (T n) → 13 ≤ v ∧ (v : Int) < mi_sF σ 9 8 := fun n hn v hv => by
    obtain ⟨s, t⟩ := ty_T_vin c1 _ _ rfl hn hv
    have r := rg _ s
    have g := (c1.2 _ s).2.2.1
    have l := c5 _ s
    have : ¬ (v : Int) ≤ 2 := fun q => by
      have p := (c1.2 _ s).1
      obtain z | z : (v : Int) = 1 ∨ (v : Int) = 2 := by omega
      · rw [z] at t
        have := (c1.2 1 c4.1.1).2.2.2.2.1 t
        rw [c4.1.2] at this
        exact tn_var this.1
      · rw [z] at t
        have := (c1.2 2 c4.2.1).2.2.2.2.1 t
        rw [c4.2.2] at this
        exact tn_var this.1
    omega
  have keep : ∀ n, Sx n → ((Sx n ∨ S2 n) ∧ wt (T2 n)) ∧ ∀ v, vin v (T2 n) → 13 ≤ v := fun n hn => by
    have e := eT n (rg n hn).1 (rg n hn).2
    rw [e]
    exact ⟨⟨Or.inl hn, c3 n hn⟩, fun v hv => (lv n hn v hv).1⟩
  refine ⟨_, T2, ν, ⟨H2, Z, fun n hn => hn.1.2, ⟨⟨keep 1 c4.1.1, ?_⟩, ⟨keep 2 c4.2.1, ?_⟩⟩, fun n hn => ?_, fun i q hq => ?_⟩, fun n hn => ⟨keep n hn, eT n (rg n hn).1 (rg n hn).2⟩, ⟨⟨Or.inr hx, ?_⟩, ?_⟩, ex, n1, n2⟩
  · rw [eT 1 (by omega) (by omega)]; exact c4.1.2
  · rw [eT 2 (by omega) (by omega)]; exact c4.2.2
  · rcases hn.1.1 with h | h
    · exact c5 n h
    · obtain ⟨g1, g2, g3, -, g5, -⟩ := HT.2 n h
      by_cases q : mi_sA σ' 10 n ≤ 2
      · have := g3.2 q
        omega
      · by_cases q4 : mi_sA σ' 10 n = 4
        · have z := hn.2 n.toNat (by rw [(g5 (Or.inr q4)).1]; rfl)
          omega
        · have := lo n h (by omega)
          omega
  · obtain ⟨q1, q2, q3, q4, q5, q6⟩ := c6 i q hq
    have e23 : mi_sE σ' 23 = mi_sE σ 23 := sg_E F 23
    have e24 : mi_sA σ' 24 = mi_sA σ 24 := sg_Af_Ak F (by decide)
    rw [e24, e23, (X.2.1 _ q2.1 q2.2).2.1]
    have r := rg _ q3
    refine ⟨q1, ⟨q2.1, by have := X.1; omega⟩, keep _ q3, by rw [eT _ r.1 r.2]; exact q4, q5, fun v hv => ?_⟩
    have hv' : vin v (T (mi_sA σ 12 (mi_sA σ 24 (i : Int)))) := by rw [q4]; exact hv
    have z := (c1.2 _ (ty_T_vin c1 _ _ rfl q3 hv').1).1
    rw [(X.2.1 _ z.1 z.2).1]
    exact q6 v hv
  · rw [ex]
    refine wt_sb _ _ rfl (c3 x0 hx0) fun v hv => ?_
    unfold cp_t
    split <;> exact True.intro
  · rw [ex]
    intro w hw
    obtain ⟨v, hv, e⟩ : ∃ v, vin v (T x0) ∧ vin w (cp_t stay σ ν v) := vin_sb _ hw
    unfold cp_t at e
    split at e
    · rename_i p
      have e' : (ν (v : Int)).toNat = w := e
      have := (n1 p.2 v hv p.1).1
      omega
    · have e' : v = w := e
      rw [← e']
      exact (lv x0 hx0 v hv).1
end CI
