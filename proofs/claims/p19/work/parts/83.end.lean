/-! ===== the end of a definition ===== -/
section CI
variable {Sx : Int → Prop} {T : Int → tr} {σ σ' : mi_Sg} {ds : List (Int64 × tr)}
theorem sg_B {ks : List Nat} {fs : List (Nat × Nat)} (F : sg_Af ks fs σ σ') (k j : Nat) : mi_sB σ' k j = mi_sB σ k j := by
  unfold mi_sB
  rw [F.1]
theorem CI_12 (C : CI Sx T σ ds) : mi_sA σ 10 1 = 1 ∧ mi_sA σ 10 2 = 2 := by
  obtain ⟨c1, -, -, c4, -⟩ := C
  constructor
  · have g := (c1.2 1 c4.1.1)
    by_cases q : mi_sA σ 10 1 = 3 ∨ mi_sA σ 10 1 = 4
    · have := (g.2.2.2.2.1 q).1
      rw [c4.1.2] at this
      exact absurd this tn_var
    · have := g.2.2.2.2.2.1 (fun h => q (Or.inl h)) (fun h => q (Or.inr h))
      rw [c4.1.2] at this
      have := (tn_inj this).1
      have := g.2.2.1.1
      omega
  · have g := (c1.2 2 c4.2.1)
    by_cases q : mi_sA σ 10 2 = 3 ∨ mi_sA σ 10 2 = 4
    · have := (g.2.2.2.2.1 q).1
      rw [c4.2.2] at this
      exact absurd this tn_var
    · have := g.2.2.2.2.2.1 (fun h => q (Or.inl h)) (fun h => q (Or.inr h))
      rw [c4.2.2] at this
      have := (tn_inj this).1
      have := g.2.2.1.1
      omega
theorem CI_lo (C : CI Sx T σ ds) : ∀ n, Sx n → mi_sA σ 10 n = 3 ∨ 5 ≤ mi_sA σ 10 n → 13 ≤ n := fun n hn h => by
  have t := CI_12 C
  have g := (C.1.2 n hn).1
  rcases C.2.2.2.2.1 n hn with l | l
  · obtain e | e : n = 1 ∨ n = 2 := by omega
    · rw [e, t.1] at h; omega
    · rw [e, t.2] at h; omega
  · exact l
theorem CI_add {nf : Int} {t : tr} {key : Int64} (C : CI Sx T σ ds) (n0 : 0 < nf) (n1 : nf < mi_sF σ 9 8) (hs : Sx (mi_sA σ 12 nf)) (ht : T (mi_sA σ 12 nf) = t) (hv : ∀ v, vin v t → mi_sA σ 10 (v : Int) = 4) : CI Sx T (mi_uA (mi_uE σ 23 (ds.length : Int) key) 24 (ds.length : Int) nf) (ds ++ [(key, t)]) := by
  obtain ⟨c1, c2, c3, c4, c5, c6⟩ := C
  refine ⟨c1, c2, c3, c4, c5, fun i q hq => ?_⟩
  by_cases h : i < ds.length
  · rw [List.getElem?_append_left h] at hq
    obtain ⟨q1, q2, q3, q4, q5, q6⟩ := c6 i q hq
    have e23 : mi_sE (mi_uA (mi_uE σ 23 (ds.length : Int) key) 24 (ds.length : Int) nf) 23 (i : Int) = mi_sE σ 23 (i : Int) := by
      rw [mi_EA, mi_EE, if_neg (by omega)]
    have e24 : mi_sA (mi_uA (mi_uE σ 23 (ds.length : Int) key) 24 (ds.length : Int) nf) 24 (i : Int) = mi_sA σ 24 (i : Int) := by
      rw [mi_AA, if_neg (by omega), mi_AE]
    rw [e23, e24]
    exact ⟨q1, q2, q3, q4, q5, q6⟩
  · have hl := (List.getElem?_eq_some_iff.mp hq).1
    simp at hl
    have e : i = ds.length := by omega
    subst e
    rw [List.getElem?_append_right (by omega)] at hq
    simp at hq
    subst hq
    have e23 : mi_sE (mi_uA (mi_uE σ 23 (ds.length : Int) key) 24 (ds.length : Int) nf) 23 (ds.length : Int) = key := by
      rw [mi_EA, mi_EE, if_pos ⟨rfl, rfl⟩]
    have e24 : mi_sA (mi_uA (mi_uE σ 23 (ds.length : Int) key) 24 (ds.length : Int) nf) 24 (ds.length : Int) = nf := by
      rw [mi_AA, if_pos ⟨rfl, rfl⟩]
    rw [e23, e24]
    exact ⟨rfl, ⟨n0, n1⟩, hs, ht, by show wt t; rw [← ht]; exact c3 _ hs, hv⟩
/-- what stands behind a definition -/
def EP (σ0 : mi_Sg) (ds : List (Int64 × tr)) (σ : mi_Sg) : Prop := (∃ Sx T, CI Sx T σ ds) ∧ KF σ0 σ ∧ mi_sF σ 17 14 = ds.length ∧ (∀ j, mi_sA σ 25 j = mi_sA σ0 25 j) ∧ mi_sF σ 9 8 = mi_sF σ0 9 8 ∧ mi_sF σ 9 11 ≤ mi_sF σ0 9 11 + 4 ∧ mi_sF σ 44 3 = 0
def edn (σ : mi_Sg) (nf : Int) : mi_Sg := mi_uF (mi_uF (mi_uF (mi_uF (mi_uF (mi_uA (mi_uE σ 23 (mi_sF σ 17 14) (mi_sB σ 43 8)) 24 (mi_sF σ 17 14) nf) 17 14 (mi_sF σ 17 14 + 1)) 44 3 0) 43 7 (-1)) 43 9 0) 43 10 0
theorem KF_edn {σ0 : mi_Sg} {nf : Int} (K : KF σ0 σ) : KF σ0 (edn σ nf) := KF_uF (KF_uF (KF_uF (KF_uF (KF_uF (KF_uA (KF_uE K (Or.inl rfl)) (by decide)) (by decide)) (by decide)) (by decide)) (by decide)) (by decide)
/-- measured, its unknowns made marks, kept -/
theorem ke_tail {X : mi_X} {d : Nat} {nf : Int} {t : tr} {key : Int64} {σ0 : mi_Sg} (C : CI Sx T σ ds) (n0 : 0 < nf) (n1 : nf < mi_sF σ 9 8) (hs : Sx (mi_sA σ 12 nf)) (ht : T (mi_sA σ 12 nf) = t) (hp : pz t ≤ 120) (hr0 : mi_sF σ0 9 11 < 99999000) (hr : mi_sF σ 9 11 ≤ mi_sF σ0 9 11 + 2) (hn : mi_sF σ 17 14 = ds.length) (hn2 : ds.length < 24) (hk : mi_sB σ 43 8 = key) (K : KF σ0 σ) (h25 : ∀ j, mi_sA σ 25 j = mi_sA σ0 25 j) (h8 : mi_sF σ 9 8 = mi_sF σ0 9 8) : ty_Ci X (d + 3) mi_M143 [(0, .ref 9), (1, .int (Int32.ofInt nf))] σ (fun y σ2 => (0 ≤ y ∧ y ≤ 120) ∧ ty_Cv X (d + 3) mi_M138 [(0, .ref 9), (1, .int (Int32.ofInt nf))] (mi_uF (mi_uF σ2 9 11 (mi_sF σ2 9 11 + 1)) 9 10 0) (fun σ3 => (0 ≤ mi_sF σ3 17 14 ∧ mi_sF σ3 17 14 < 24) ∧ EP σ0 (ds ++ [(key, t)]) (edn σ3 nf))) := by
  have Z := C.2.1
  have P := CI_sub C (fun e => pz e ≤ 120 ∨ e = tn 1 tr_0 tr_0 tr_0 ∨ e = tn 2 tr_0 tr_0 tr_0)
  have Hp : ty_T σ (fun n => Sx n ∧ pz (T n) ≤ 120) T := ty_T_sub C.1 (fun e => pz e ≤ 120) fun n k hn hw k0 k1 hk => by
    have z := pz_node C.1 hn
    have z0 := pz_0 (T (ty_K' σ n 0))
    have z1 := pz_0 (T (ty_K' σ n 1))
    have z2 := pz_0 (T (ty_K' σ n 2))
    obtain rfl | rfl | rfl : k = 0 ∨ k = 1 ∨ k = 2 := by omega
    · omega
    · omega
    · omega
  refine ty_Ci_s (ty_partsOf (d := d + 1) Z (by omega) Hp n0 n1 ⟨hs, by rw [ht]; exact hp⟩ (fun n hn => by have := hn.2; omega)) ?_
  rintro y σ2 h2 S2 ⟨ey, M⟩
  have C2 := CI_M C M
  have f8 : mi_sF σ2 9 8 = mi_sF σ 9 8 := M.1.2.2 9 8 (by decide)
  have g12 : mi_sA σ2 12 = mi_sA σ 12 := sg_Af_Ak M.1 (by decide)
  refine ⟨⟨by rw [ey]; exact pz_0 _, by rw [ey, ht]; exact hp⟩, ?_⟩
  obtain ⟨G, B⟩ := ty_b_G C2.2.1 (by have := M.2.1; omega)
  have t0 : mi_sA (ty_b σ2) 10 0 = 0 := C2.2.1.2.2.2.2
  have Zb : ty_Z (ty_b σ2) := ga_S_Z B G.2 (by have := G.1; omega) t0
  have Cb : CI Sx T (ty_b σ2) ds := CI_z C2 Zb rfl rfl rfl rfl rfl rfl
  refine ty_Cv_s (ty_markUnknown (d := d + 1) G B Cb.1 (by omega) (by show nf < mi_sF σ2 9 8; omega) (fun _ => by show Sx (mi_sA σ2 12 nf); rw [g12]; exact hs)) ?_
  intro σ3 h3 S3 Q
  have Q' := Q
  obtain ⟨F, B3, tg, tg0, r, -⟩ := Q
  have e8 : mi_sF σ3 9 8 = mi_sF σ2 9 8 := F.2.2 9 8 (by decide)
  have e11 : mi_sA σ3 11 = mi_sA σ2 11 := sg_Af_Ak F (by decide)
  have e12 : mi_sA σ3 12 = mi_sA σ2 12 := sg_Af_Ak F (by decide)
  have e24 : mi_sA σ3 24 = mi_sA σ2 24 := sg_Af_Ak F (by decide)
  have e23 : mi_sE σ3 23 = mi_sE σ2 23 := sg_E F 23
  have fr : mi_sF σ3 9 11 = mi_sF σ2 9 11 + 1 := F.2.2 9 11 (by decide)
  have Z3 : ty_Z σ3 := ga_S_Z B3 (fun n k a b c e => by
    have := G.2 n k a (by show n < mi_sF σ2 9 8; omega) c e
    unfold ty_k at this ⊢
    rw [e11]
    have e8' : mi_sF (ty_b σ2) 9 8 = mi_sF σ2 9 8 := rfl
    have e11' : mi_sA (ty_b σ2) 11 = mi_sA σ2 11 := rfl
    rw [e8', e11'] at this
    omega) (by have := C2.2.1.1; omega) (by rw [tg0]; exact t0)
  have C3 : CI Sx T σ3 ds := CI_mu Cb Z3 e8 e11 e12 e24 e23 (fun n a b => (tg n a b).imp id (fun q => ⟨q.1, q.2.1⟩))
  have s12 : mi_sA σ3 12 nf = mi_sA σ 12 nf := by rw [e12, g12]
  have nz : mi_sA σ 12 nf ≠ 0 := by
    have := (C.1.2 _ hs).1
    omega
  have mk : ∀ v, vin v t → mi_sA σ3 10 (v : Int) = 4 := fun v hv => by
    have rr : mi_sA σ3 13 (mi_sA σ 12 nf) = 2 * mi_sF (ty_b σ2) 9 11 + 1 := by
      rcases r with e | e
      · have e' : mi_sA σ2 12 nf = 0 := e
        rw [g12] at e'
        exact absurd e' nz
      · have e' : mi_sA σ3 13 (mi_sA σ2 12 nf) = 2 * mi_sF (ty_b σ2) 9 11 + 1 := e
        rw [g12] at e'
        exact e'
    refine mu_marks Cb.1 Q' (fun n _ a b c => ?_) _ _ rfl hs rr v (by rw [ht]; exact hv)
    have := (C2.2.1.2.2.1 n (by omega) b).2
    have c' : mi_sA σ2 13 n = 2 * (mi_sF σ2 9 11 + 1) + 1 := c
    omega
  have k1 : KF σ σ3 := KF_tr (KF_sg M.1 (by decide) (by decide)) (KF_tr (KF_uF (KF_uF KF_rf (by decide)) (by decide)) (KF_sg F (by decide) (by decide)))
  have f14 : mi_sF σ3 17 14 = ds.length := by rw [F.2.2 17 14 (by decide), ← hn]; exact M.1.2.2 17 14 (by decide)
  have eb : mi_sB σ3 43 8 = key := by
    rw [← hk]
    have a1 : mi_sB σ3 43 8 = mi_sB (ty_b σ2) 43 8 := sg_B F 43 8
    have a2 : mi_sB σ2 43 8 = mi_sB σ 43 8 := sg_B M.1 43 8
    rw [a1]
    exact a2
  have C4 := CI_add (key := key) C3 n0 (by omega) (by rw [s12]; exact hs) (by rw [s12]; exact ht) mk
  refine ⟨by omega, ⟨Sx, T, ?_⟩, KF_tr K (KF_edn k1), ?_, ?_, ?_, ?_, rfl⟩
  · refine CI_s C4 ?_
    unfold edn
    rw [f14, eb]
    exact ⟨⟨rfl, rfl⟩, rfl, rfl, rfl, rfl, rfl, rfl⟩
  · show mi_sF σ3 17 14 + 1 = _
    rw [f14]; simp
  · intro j
    have a1 : mi_sA (edn σ3 nf) 25 j = mi_sA σ3 25 j := by
      show mi_sA (mi_uA (mi_uE σ3 23 (mi_sF σ3 17 14) (mi_sB σ3 43 8)) 24 (mi_sF σ3 17 14) nf) 25 j = _
      rw [mi_AA, if_neg (by omega)]
      rfl
    rw [a1, F.2.1 25 j (by decide), ← h25 j]
    exact M.1.2.1 25 j (by decide)
  · show mi_sF σ3 9 8 = _
    omega
  · show mi_sF σ3 9 11 ≤ _
    have := M.2.1
    omega
/-- the type that was found, without a form -/
theorem ke_0 {X : mi_X} {d : Nat} {st nm : Int} {F : tr} {key : Int64} (C : CI Sx T σ ds) (h00 : mi_sA σ 12 0 = 0) (hs : mi_sF σ 43 6 = 26) (h0 : 0 ≤ st) (h1 : st < mi_sF σ 26 7) (h2 : mi_sF σ 26 7 ≤ 1024) (f0 : mi_sF σ 2 0 = 0) (f10 : mi_sF σ 43 10 = 0) (f9 : mi_sF σ 9 9 = 13)
    (x0 : 0 < mi_sA σ 33 st) (x1 : mi_sA σ 33 st < mi_sF σ 9 8) (hx : Sx (mi_sA σ 12 (mi_sA σ 33 st))) (hF : T (mi_sA σ 12 (mi_sA σ 33 st)) = F) (hF2 : ∀ v, F ≠ .var v) (hp : pz F ≤ 120) (hu : Sx (mi_sF σ 43 9)) (hu3 : mi_sA σ 10 (mi_sF σ 43 9) = 3) (hno : ¬ vin (mi_sF σ 43 9).toNat F)
    (hr : mi_sF σ 9 11 < 99999000) (hn : mi_sF σ 17 14 = ds.length) (hn2 : ds.length < 24) (hk : mi_sB σ 43 8 = key) : ty_Cv X (d + 4) mi_M19 [(0, .ref 43), (1, .int (Int32.ofInt st)), (2, .int (Int32.ofInt nm))] σ (EP σ (ds ++ [(key, F)])) := by
  have gu := C.1.2 _ hu
  have tu := (gu.2.2.2.2.1 (Or.inl hu3)).1
  refine ck_end0 (R := EP σ (ds ++ [(key, F)])) hs h0 h1 h2 (ty_Ci_s (ty_fits (d := d) C.1 C.2.1 (fun n hn q => by rw [f9]; exact CI_lo C n hn q) (by omega) x0 x1 gu.1.1 gu.1.2 hx (by rw [gu.2.1]; exact hu)) ?_)
  intro x σ1 hh S1 Q
  rw [gu.2.1] at Q
  have f : fx (mi_sA σ 10) (fun v => if v = (mi_sF σ 43 9).toNat then F else .var v) := fun v hv => by
    dsimp only
    rw [if_neg]
    intro e
    rw [e, show (((mi_sF σ 43 9).toNat : Nat) : Int) = mi_sF σ 43 9 by omega, hu3] at hv
    exact absurd hv (by decide)
  have eF : sb (fun v => if v = (mi_sF σ 43 9).toNat then F else .var v) F = F := by
    rw [sb_ext (η := .var) F (fun v hv => by
      skip
      rw [if_neg (fun e => hno (by rw [← e]; exact hv))])]
    exact sb_id F
  have u : sb (fun v => if v = (mi_sF σ 43 9).toNat then F else .var v) (T (mi_sA σ 12 (mi_sA σ 33 st))) = sb (fun v => if v = (mi_sF σ 43 9).toNat then F else .var v) (T (mi_sF σ 43 9)) := by
    rw [hF, tu, eF]
    show F = if (mi_sF σ 43 9).toNat = (mi_sF σ 43 9).toNat then F else _
    rw [if_pos rfl]
  obtain rfl := ft_1 Q f u
  obtain ⟨θ1, f1, mg, u1, C1, w⟩ := CI_ft C h00 S1 Q
  have mg' := mg _ f u
  have fv : ∀ v, v ≠ (mi_sF σ 43 9).toNat → θ1 v = .var v := fun v hv => by
    refine ft_fix (mg' v) (by rw [if_neg hv]) fun z hz => ?_
    skip
    split at hz
    · exact absurd hz (hF2 v)
    · exact (by injection hz)
  have e1 : sb θ1 F = F := by
    rw [sb_ext (η := .var) F (fun v hv => fv v (fun e => hno (by rw [← e]; exact hv)))]
    exact sb_id F
  have wF : wt F := by rw [← hF]; exact C.2.2.1 _ hx
  have z := w _ hx (by rw [hF, e1]; exact wF)
  obtain ⟨F1, fr, Z1, -, q5, -⟩ := Q
  have q5' := q5 _ x0 x1
  refine ⟨rfl, (F1.2.2 2 0 (by decide)).trans f0, (F1.2.2 43 10 (by decide)).trans f10, ?_⟩
  have f8 : mi_sF σ1 9 8 = mi_sF σ 9 8 := F1.2.2 9 8 (by decide)
  exact ke_tail (d := d) C1 x0 (by rw [f8]; exact x1) (by rw [q5']; exact z.1) (by rw [q5']; show sb θ1 (T _) = _; rw [z.2, hF, e1]) hp hr (by omega) ((F1.2.2 17 14 (by decide)).trans hn) hn2 ((sg_B F1 43 8).trans hk) (KF_sg F1 (by decide) (by decide)) (fun j => F1.2.1 25 j (by decide)) f8
end CI
