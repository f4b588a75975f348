/-! ===== covers and meet, between calls ===== -/
theorem ty_H_k {h : mi_H} {σ : mi_Sg} (S : ty_H h σ) {n : Int} (n0 : 0 < n) (n1 : n < mi_sF σ 9 9) : mi_sA σ 12 n < mi_sF σ 9 9 := by
  obtain ⟨-, L, t, St, V⟩ := S
  exact ((V.2.2.2.2.2.2 n n0).1 n1).2
section CV
variable {X : mi_X} {d : Nat} {σ σ1 σ2 σ3 : mi_Sg} {ds : List (Int64 × tr)} {Sx S2 : Int → Prop} {T T2 : Int → tr} {ta tb : tr} {x y z : Int} {h : mi_H}
/-- what was there before stays, whatever is fitted -/
theorem ft_old {ks : List Nat} {fs : List (Nat × Nat)} (S : ty_H h σ) (X2 : ty_X σ σ2) (F : sg_Af ks fs σ σ2) (h9 : (9, 9) ∉ fs) (f9 : mi_sF σ 9 9 = mi_sF σ 9 8) (H2 : ty_T σ2 S2 T2) (lo : ∀ n, S2 n → mi_sA σ2 10 n = 3 ∨ 5 ≤ mi_sA σ2 10 n → mi_sF σ 9 9 ≤ n) {xx yy : Int} (Q : ft_Q S2 T2 xx yy σ2 z σ3) : ∀ n, 0 < n → n < mi_sF σ 9 9 → mi_sA σ3 10 n = mi_sA σ 10 n ∧ mi_sA σ3 12 n = mi_sA σ 12 n ∧ ∀ k, 0 ≤ k → k < 3 → ty_k σ3 n k = ty_k σ n k := by
  obtain ⟨F3, -, -, q4, q5, q6, -⟩ := Q
  intro n n0 n1
  have e10 : mi_sA σ3 10 = mi_sA σ2 10 := sg_Af_Ak F3 (by decide)
  have e11 : mi_sA σ3 11 = mi_sA σ2 11 := sg_Af_Ak F3 (by decide)
  obtain ⟨x1, x2, x3⟩ := X2.2.1 n n0 (by omega)
  have X28 := X2.1
  refine ⟨by rw [e10]; exact x1, ?_, fun k k0 k1 => ?_⟩
  · have rr := ty_H_r S n0 (by omega)
    have rk := ty_H_k S n0 n1
    rw [← x2]
    by_cases e : S2 (mi_sA σ2 12 n)
    · rw [q5 n n0 (by omega)]
      refine q6 _ e ?_
      have g := (H2.2 _ e).2.2.1.1
      have := lo _ e
      rw [x2] at this g ⊢
      by_cases t : mi_sA σ2 10 (mi_sA σ 12 n) = 3 ∨ 5 ≤ mi_sA σ2 10 (mi_sA σ 12 n)
      · have := this t
        omega
      · omega
    · exact q4 n n0 (by omega) e
  · have := x3 k k0 k1
    unfold ty_k at this ⊢
    rw [e11]; exact this
/-- one more program state, k rounds later -/
def PQ (σ σ' : mi_Sg) (ds : List (Int64 × tr)) (k : Int) : Prop := PI σ' ds ∧ QF σ σ' ∧ mi_sF σ' 9 8 = mi_sF σ 9 8 ∧ mi_sF σ' 9 11 ≤ mi_sF σ 9 11 + k
/-- the paper is the same -/
def PS (σ σ' : mi_Sg) : Prop := mi_sF σ' 52 5 = mi_sF σ 52 5 ∧ ∀ i, mi_sA σ' 53 i = mi_sA σ 53 i
/-- behind copies and a fits, the loose nodes dropped -/
theorem PQ_ft {ks : List Nat} {fs : List (Nat × Nat)} {k : Int} (S : ty_H h σ) (S3 : mi_sA σ3 12 0 = 0) (P : PI σ ds) (F : sg_Af ks fs σ σ3) (h1 : ∀ k ∈ ks, k ∈ qfA) (h2 : ∀ k ∈ fs, k ∈ qfF) (h0 : (0, 10) ∉ fs) (old : ∀ n, 0 < n → n < mi_sF σ 9 9 → mi_sA σ3 10 n = mi_sA σ 10 n ∧ mi_sA σ3 12 n = mi_sA σ 12 n ∧ ∀ k, 0 ≤ k → k < 3 → ty_k σ3 n k = ty_k σ n k) (Z : ty_Z σ3) (h8 : mi_sF σ 9 8 ≤ mi_sF σ3 9 8) (hk : mi_sF σ3 9 11 ≤ mi_sF σ 9 11 + k) : PQ σ (mi_uF σ3 9 8 (mi_sF σ3 9 9)) ds k := by
  have Q : QF σ (mi_uF σ3 9 8 (mi_sF σ3 9 9)) := QF_uF (QF_sg F h1 h2 old) (by decide)
  have e9 : mi_sF σ3 9 9 = mi_sF σ 9 9 := F.2.2 9 9 (fun q => absurd (h2 _ q) (by decide))
  have f9 : mi_sF σ 9 9 = mi_sF σ 9 8 := P.2.2.2.1
  have e8 : mi_sF (mi_uF σ3 9 8 (mi_sF σ3 9 9)) 9 8 = mi_sF σ 9 8 := by
    rw [mi_FF, if_pos ⟨rfl, rfl⟩]; omega
  obtain ⟨z1, z2, z3, z4, z5⟩ := Z
  have pz := P.1
  obtain ⟨Sx, T, C, hm⟩ := pz
  have Zf : ty_Z (mi_uF σ3 9 8 (mi_sF σ3 9 9)) := by
    refine ⟨z1, fun n k n0 n1 k0 k1 => ?_, fun n n0 n1 => ?_, z4, z5⟩
    · rw [e8] at n1 ⊢
      show 0 ≤ ty_k σ3 n k ∧ ty_k σ3 n k < _
      rw [(old n n0 (by omega)).2.2 k k0 k1]
      exact C.2.1.2.1 n k n0 n1 k0 k1
    · rw [e8] at n1
      exact z3 n n0 (by omega)
  exact ⟨PI_q P Q e8 Zf (ty_H_u S).2.2.2 S3 (ty_H_f S).1 ((F.2.2 0 10 h0).trans P.2.2.2.2), Q, e8, hk⟩
/-- a unifier out of two instances -/
theorem TC_un {ν ν' : Int → Int} {tag : Int → Int} {u : Int} (η η' : Nat → tr) (hu : 0 ≤ u) (ha : ∀ v, vin v ta → (0 ≤ ν (v : Int) ∧ ν (v : Int) < u) ∧ tag (ν (v : Int)) = 3) (ia : ∀ v w, vin v ta → vin w ta → ν (v : Int) = ν (w : Int) → v = w) (hb : ∀ v, vin v tb → u ≤ ν' (v : Int) ∧ tag (ν' (v : Int)) = 3) (ib : ∀ v w, vin v tb → vin w tb → ν' (v : Int) = ν' (w : Int) → v = w) : ∃ θ, fx tag θ ∧ sb θ (sb (fun v => .var (ν (v : Int)).toNat) ta) = sb η ta ∧ sb θ (sb (fun v => .var (ν' (v : Int)).toNat) tb) = sb η' tb := by
  classical
  refine ⟨fun w => if h : ∃ v, vin v ta ∧ (ν (v : Int)).toNat = w then η h.choose else if h' : ∃ v, vin v tb ∧ (ν' (v : Int)).toNat = w then η' h'.choose else .var w, fun w hw => ?_, ?_, ?_⟩
  · have n1 : ¬ ∃ v, vin v ta ∧ (ν (v : Int)).toNat = w := by
      rintro ⟨v, hv, e⟩
      have := ha v hv
      rw [show ν (v : Int) = (w : Int) by omega] at this
      omega
    have n2 : ¬ ∃ v, vin v tb ∧ (ν' (v : Int)).toNat = w := by
      rintro ⟨v, hv, e⟩
      have := hb v hv
      rw [show ν' (v : Int) = (w : Int) by omega] at this
      omega
    show (dite _ _ _ : tr) = _
    rw [dif_neg n1, dif_neg n2]
  · rw [sb_sb]
    refine sb_ext _ fun v hv => ?_
    have hh : ∃ v', vin v' ta ∧ (ν (v' : Int)).toNat = (ν (v : Int)).toNat := ⟨v, hv, rfl⟩
    show (dite _ _ _ : tr) = _
    rw [dif_pos hh]
    have a1 := ha v hv
    have a2 := ha _ hh.choose_spec.1
    rw [ia _ _ hh.choose_spec.1 hv (by have := hh.choose_spec.2; omega)]
  · rw [sb_sb]
    refine sb_ext _ fun v hv => ?_
    have hh : ∃ v', vin v' tb ∧ (ν' (v' : Int)).toNat = (ν' (v : Int)).toNat := ⟨v, hv, rfl⟩
    have b1 := hb v hv
    have n1 : ¬ ∃ v', vin v' ta ∧ (ν (v' : Int)).toNat = (ν' (v : Int)).toNat := by
      rintro ⟨v', hv', e⟩
      have := ha v' hv'
      omega
    show (dite _ _ _ : tr) = _
    rw [dif_neg n1, dif_pos hh]
    have b2 := hb _ hh.choose_spec.1
    rw [ib _ _ hh.choose_spec.1 hv (by have := hh.choose_spec.2; omega)]
theorem TC_in {ν : Int → Int} {tag : Int → Int} (η : Nat → tr) (ha : ∀ v, vin v ta → 0 ≤ ν (v : Int) ∧ tag (ν (v : Int)) = 3) (ia : ∀ v w, vin v ta → vin w ta → ν (v : Int) = ν (w : Int) → v = w) : ∃ θ, fx tag θ ∧ sb θ (sb (fun v => .var (ν (v : Int)).toNat) ta) = sb η ta := by
  classical
  refine ⟨fun w => if h : ∃ v, vin v ta ∧ (ν (v : Int)).toNat = w then η h.choose else .var w, fun w hw => ?_, ?_⟩
  · have n1 : ¬ ∃ v, vin v ta ∧ (ν (v : Int)).toNat = w := by
      rintro ⟨v, hv, e⟩
      have := ha v hv
      rw [show ν (v : Int) = (w : Int) by omega] at this
      omega
    show (dite _ _ _ : tr) = _
    rw [dif_neg n1]
  · rw [sb_sb]
    refine sb_ext _ fun v hv => ?_
    have hh : ∃ v', vin v' ta ∧ (ν (v' : Int)).toNat = (ν (v : Int)).toNat := ⟨v, hv, rfl⟩
    show (dite _ _ _ : tr) = _
    rw [dif_pos hh]
    have a1 := ha v hv
    have a2 := ha _ hh.choose_spec.1
    rw [ia _ _ hh.choose_spec.1 hv (by have := hh.choose_spec.2; omega)]
/-- covers -/
theorem q_covers {a b : Nat} {ka kb' : Int64} (P : PI σ ds) (ha : ds[a]? = some (ka, ta)) (hb : ds[b]? = some (kb', tb)) (hroom : mi_sF σ 9 8 + pz ta + pz tb ≤ 512) (hr : mi_sF σ 9 11 < 99998000) (hd : ds.length ≤ 24) : ty_Ci X (d + 4) mi_M7 [(0, .ref 0), (1, .int (Int32.ofInt (a : Int))), (2, .int (Int32.ofInt (b : Int)))] σ (fun z σ' => ((z = 1 ∧ inst ta tb) ∨ (z = 0 ∧ ¬ inst ta tb)) ∧ PQ σ σ' ds 3 ∧ PS σ σ') := by
  refine ty_C_S fun h hS => ?_
  obtain ⟨⟨Sx, T, C, hm⟩, kbb, n14, f9, f0⟩ := id P
  have h13 := (ty_H_f hS).1
  have la := (List.getElem?_eq_some_iff.mp ha).1
  have lb := (List.getElem?_eq_some_iff.mp hb).1
  refine tl_covers (d := d + 2) (by omega) (by omega) (by omega) (by omega) (by omega) (two_cp (d := d) (stay := 1) C hm f9 h13 ha hb (Or.inr rfl) hroom (by omega) fun x y σ2 tc => ?_)
  obtain ⟨S2, T2, ν, ν', σ1, ⟨H2, Z2, w2, hx, hy, lo⟩, ⟨X1, X2, F, r2, g8⟩, ⟨ex, n1, n2⟩, tb4, ey, -⟩ := tc
  have gx := H2.2 x hx
  have gy := H2.2 y hy
  have e99 : mi_sF σ2 9 9 = mi_sF σ 9 9 := F.2.2 9 9 (by decide)
  have X12 := ty_X_tr X1 X2
  refine ty_Ci_s (ty_fits (d := d + 1) H2 Z2 (fun n hn q => by rw [e99]; exact lo n hn q) (by omega) gx.1.1 gx.1.2 gy.1.1 gy.1.2 (by rw [gx.2.1]; exact hx) (by rw [gy.2.1]; exact hy)) fun z σ3 h3 S3 Q => ?_
  rw [gx.2.1, gy.2.1] at Q
  have old := ft_old hS X12 F (by decide) f9 H2 lo Q
  have Q' := Q
  obtain ⟨F3, fr, Z3, -, -, -, q7⟩ := Q'
  rw [ex, ey rfl] at q7
  have fin : ((z = 1 ∧ inst ta tb) ∨ (z = 0 ∧ ¬ inst ta tb)) := by
    have ht : ∀ θ, fx (mi_sA σ2 10) θ → sb θ tb = tb := fun θ f => sb_fx f tb4
    rcases q7 with ⟨e, no⟩ | ⟨e, Sf, T1, θ1, -, -, -, -, u1, u2, f1, -⟩
    · refine Or.inr ⟨e, ?_⟩
      rintro ⟨η, hη⟩
      obtain ⟨θ, f, e1⟩ := TC_in (tag := mi_sA σ2 10) η (fun v hv => ⟨by have := (n1 v hv).1; omega, (n1 v hv).2⟩) n2
      exact no θ f (by rw [e1, ht θ f, hη])
    · refine Or.inl ⟨e, fun v => θ1 (ν (v : Int)).toNat, ?_⟩
      have := u1.symm.trans u2
      rw [sb_sb, ht θ1 f1] at this
      exact this
  have FF : sg_Af [10, 11, 12, 13, 14, 15, 16] [(9, 8), (9, 10), (9, 11)] σ σ3 := sg_Af_tr F (sg_Af_w F3 (by decide) (by decide))
  have k8 : mi_sF σ3 9 8 = mi_sF σ2 9 8 := F3.2.2 9 8 (by decide)
  refine ⟨by rcases fin with f | f; exact Or.inr f.1; exact Or.inl f.1, fin, PQ_ft hS (ty_H_u S3).2.2.2 P FF (by decide) (by decide) (by decide) old Z3 (by have := X12.1; omega) (by omega), ?_⟩
  exact ⟨FF.2.2 52 5 (by decide), fun i => FF.2.1 53 i (by decide)⟩
end CV
