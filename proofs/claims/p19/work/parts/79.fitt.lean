/-! ===== what stands behind a fits, in trees ===== -/
theorem ty_Ci_s {X : mi_X} {d : Nat} {M : mi_M} {l : mi_L} {σ : mi_Sg} {P Q : Int → mi_Sg → Prop} (H : ty_Ci X d M l σ P) (h : ∀ x σ' h', ty_H h' σ' → P x σ' → Q x σ') : ty_Ci X d M l σ Q := fun hp S => mi_wp_q (H hp S) (fun z hz => by
  obtain ⟨v, h', σ', a1, a2, a3, x, a4, a5⟩ := hz
  exact ⟨v, h', σ', a1, a2, a3, x, a4, h x σ' h' a2 a5⟩)
theorem ty_Cv_s {X : mi_X} {d : Nat} {M : mi_M} {l : mi_L} {σ : mi_Sg} {P Q : mi_Sg → Prop} (H : ty_Cv X d M l σ P) (h : ∀ σ' h', ty_H h' σ' → P σ' → Q σ') : ty_Cv X d M l σ Q := fun hp S => mi_wp_q (H hp S) (fun z hz => by
  obtain ⟨v, h', σ', a1, a2, a3, a4, a5⟩ := hz
  exact ⟨v, h', σ', a1, a2, a3, a4, h σ' h' a2 a5⟩)
/-- from the facts that there are of the cells -/
theorem ty_C_S {X : mi_X} {d : Nat} {M : mi_M} {l : mi_L} {σ : mi_Sg} {P : Option Value → mi_Sg → Prop} (H : ∀ h, ty_H h σ → ty_C X d M l σ P) : ty_C X d M l σ P := fun h S => H h S h S
/-- the ends of a set's nodes -/
def ens (Sx : Int → Prop) (σ : mi_Sg) (n : Int) : Prop := Sx n ∧ mi_sA σ 12 n = n
theorem ft_T {σ0 σ : mi_Sg} {Sx : Int → Prop} {T : Int → tr} {a b : Int} {h : mi_H} (H : ty_T σ0 Sx T) (Z : ty_Z σ0) (h00 : mi_sA σ0 12 0 = 0) (S : ty_H h σ) (Q : ft_Q Sx T a b σ0 1 σ) : ∃ θ1 : Nat → tr, fx (mi_sA σ0 10) θ1 ∧ (∀ θ, fx (mi_sA σ0 10) θ → sb θ (T a) = sb θ (T b) → ∀ v : Nat, sb θ (θ1 v) = θ v) ∧ sb θ1 (T a) = sb θ1 (T b) ∧ ty_T σ (ens Sx σ) (fun n => sb θ1 (T n)) ∧ ∀ n, Sx n → ens Sx σ (mi_sA σ 12 n) ∧ sb θ1 (T (mi_sA σ 12 n)) = sb θ1 (T n) := by
  obtain ⟨F, -, -, q4, q5, q6, q7⟩ := Q
  rcases q7 with ⟨e, -⟩ | ⟨-, Sf, T1, θ1, -, -, -, -, u1, u2, fx1, mg, w1, w2, w3⟩
  · exact absurd e (by decide)
  have e8 : mi_sF σ 9 8 = mi_sF σ0 9 8 := F.2.2 9 8 (by decide)
  have e10 : mi_sA σ 10 = mi_sA σ0 10 := sg_Af_Ak F (by decide)
  have e11 : mi_sA σ 11 = mi_sA σ0 11 := sg_Af_Ak F (by decide)
  have h0 := (ty_H_u S).2.2.2
  have ek : ∀ n k, ty_k σ n k = ty_k σ0 n k := fun n k => by
    unfold ty_k
    rw [e11]
  have en : ∀ n, Sx n → ens Sx σ (mi_sA σ 12 n) := fun n hn => by
    have g1 := (H.2 n hn).1
    exact ⟨(w1 n hn).1, (ty_H_r S g1.1 (by omega)).2.2⟩
  have eK : ∀ n, Sx n → ∀ k, 0 ≤ k → k < 3 → ty_K' σ n k = mi_sA σ 12 (ty_K' σ0 n k) := fun n hn k k0 k1 => by
    have g1 := (H.2 n hn).1
    have z := Z.2.1 n k g1.1 g1.2 k0 k1
    unfold ty_K'
    rw [ek]
    by_cases e : ty_k σ0 n k = 0
    · rw [e]
      rw [h00]
    · exact q5 _ (by omega) z.2
  refine ⟨θ1, fx1, mg, u1.symm.trans u2, ⟨by show sb θ1 (T 0) = _; rw [H.1]; rfl, fun n hn => ?_⟩, fun n hn => ⟨en n hn, (w1 n hn).2⟩⟩
  obtain ⟨g1, g2, g3, g4, g5, g6, g7⟩ := H.2 n hn.1
  have nz : ∀ k, Sx k → mi_sA σ 12 k ≠ 0 := fun k hk q => by
    have := (H.2 _ (w1 k hk).1).1
    omega
  refine ⟨by omega, hn.2, by rw [e10]; exact g3, fun k k0 k1 => ?_, fun q => ?_, fun q1 q2 => ?_, fun k k0 k1 => ?_⟩
  · rw [eK n hn.1 k k0 k1]
    rcases g4 k k0 k1 with e | e
    · rw [e]; exact Or.inl h0
    · exact Or.inr (en _ e)
  · rw [e10] at q
    refine ⟨?_, fun k k0 k1 => ?_⟩
    · show sb θ1 (T n) = _
      rw [(g5 q).1]
      show θ1 n.toNat = _
      rcases q with q | q
      · exact w3 n hn.1 q hn.2
      · exact fx1 _ (by rw [show ((n.toNat : Nat) : Int) = n by omega]; exact q)
    · rw [eK n hn.1 k k0 k1, (g5 q).2 k k0 k1]
      exact h0
  · rw [e10] at q1 q2 ⊢
    have sk : ∀ k, 0 ≤ k → k < 3 → sb θ1 (T (ty_K' σ n k)) = sb θ1 (T (ty_K' σ0 n k)) := fun k k0 k1 => by
      rw [eK n hn.1 k k0 k1]
      rcases g4 k k0 k1 with e | e
      · rw [e, h0]
      · exact (w1 _ e).2
    dsimp only
    rw [g6 q1 q2, sb_tn, sk 0 (by omega) (by omega), sk 1 (by omega) (by omega), sk 2 (by omega) (by omega)]
  · rw [e10, eK n hn.1 k k0 k1, ← g7 k k0 k1]
    refine ⟨fun q => ?_, fun q => by rw [q]; exact h0⟩
    rcases g4 k k0 k1 with e | e
    · exact e
    · exact absurd q (nz _ e)
