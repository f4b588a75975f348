/-! ===== the end of a definition with a form ===== -/
section CI
variable {Sx : Int → Prop} {T : Int → tr} {σ σ' : mi_Sg} {ds : List (Int64 × tr)}
theorem ke_1 {X : mi_X} {d : Nat} {st nm : Int} {F t : tr} {key : Int64} (C : CI Sx T σ ds) (h00 : mi_sA σ 12 0 = 0) (hs : mi_sF σ 43 6 = 26) (h0 : 0 ≤ st) (h1 : st < mi_sF σ 26 7) (h2 : mi_sF σ 26 7 ≤ 1024) (f0 : mi_sF σ 2 0 = 0) (f9 : mi_sF σ 9 9 = 13) (hu5 : mi_sF σ 9 8 ≤ 512)
    (x0 : 0 < mi_sA σ 33 st) (x1 : mi_sA σ 33 st < mi_sF σ 9 8) (hx : Sx (mi_sA σ 12 (mi_sA σ 33 st))) (hF : T (mi_sA σ 12 (mi_sA σ 33 st)) = F)
    (y0 : 0 < mi_sF σ 43 10) (y1 : mi_sF σ 43 10 < mi_sF σ 9 8) (hy : Sx (mi_sA σ 12 (mi_sF σ 43 10))) (ht : T (mi_sA σ 12 (mi_sF σ 43 10)) = t) (hv : ∀ v, vin v t → mi_sA σ 10 (v : Int) = 4) (hp : pz t ≤ 120) (hu : Sx (mi_sF σ 43 9)) (hu3 : mi_sA σ 10 (mi_sF σ 43 9) = 3)
    (hFF : F = .var (mi_sF σ 43 9).toNat ∨ (¬ vin (mi_sF σ 43 9).toNat F ∧ (∀ v, F ≠ .var v) ∧ ∃ θ, fx (mi_sA σ 10) θ ∧ sb θ F = t))
    (hr : mi_sF σ 9 11 < 99999000) (hn : mi_sF σ 17 14 = ds.length) (hn2 : ds.length < 24) (hk : mi_sB σ 43 8 = key) : ty_Cv X (d + 4) mi_M19 [(0, .ref 43), (1, .int (Int32.ofInt st)), (2, .int (Int32.ofInt nm))] σ (EP σ (ds ++ [(key, t)])) := by
  have gu := C.1.2 _ hu
  have tu := (gu.2.2.2.2.1 (Or.inl hu3)).1
  refine ck_end1 (R := EP σ (ds ++ [(key, t)])) hs h0 h1 h2 y0 (by omega) (ty_Ci_s (ty_fits (d := d) C.1 C.2.1 (fun n hn q => by rw [f9]; exact CI_lo C n hn q) (by omega) x0 x1 gu.1.1 gu.1.2 hx (by rw [gu.2.1]; exact hu)) ?_)
  intro x σ1 hh S1 Q
  rw [gu.2.1] at Q
  have fu : ∀ G : tr, fx (mi_sA σ 10) (fun v => if v = (mi_sF σ 43 9).toNat then G else .var v) := fun G v hv => by
    show (if v = (mi_sF σ 43 9).toNat then G else .var v) = _
    rw [if_neg]
    intro e
    rw [e, show (((mi_sF σ 43 9).toNat : Nat) : Int) = mi_sF σ 43 9 by omega, hu3] at hv
    exact absurd hv (by decide)
  have su : ∀ G : tr, sb (fun v => if v = (mi_sF σ 43 9).toNat then G else .var v) (.var (mi_sF σ 43 9).toNat) = G := fun G => by
    show (if (mi_sF σ 43 9).toNat = (mi_sF σ 43 9).toNat then G else _) = G
    rw [if_pos rfl]
  have step1 : x = 1 ∧ ∀ θ1 : Nat → tr, (∀ θ, fx (mi_sA σ 10) θ → sb θ (T (mi_sA σ 12 (mi_sA σ 33 st))) = sb θ (T (mi_sF σ 43 9)) → ∀ v : Nat, sb θ (θ1 v) = θ v) → sb θ1 F = F := by
    rcases hFF with e | ⟨no, nv, -⟩
    · have f : fx (mi_sA σ 10) .var := fun v _ => rfl
      have u : sb .var (T (mi_sA σ 12 (mi_sA σ 33 st))) = sb .var (T (mi_sF σ 43 9)) := by rw [hF, tu, e]
      refine ⟨ft_1 Q f u, fun θ1 mg => ?_⟩
      rw [e]
      exact ft_fix (mg _ f u _) rfl fun w h => by injection h
    · have eF : sb (fun v => if v = (mi_sF σ 43 9).toNat then F else .var v) F = F := by
        rw [sb_ext (η := .var) F (fun v hv => if_neg (fun e => no (by rw [← e]; exact hv)))]
        exact sb_id F
      have u : sb (fun v => if v = (mi_sF σ 43 9).toNat then F else .var v) (T (mi_sA σ 12 (mi_sA σ 33 st))) = sb (fun v => if v = (mi_sF σ 43 9).toNat then F else .var v) (T (mi_sF σ 43 9)) := by
        rw [hF, tu, eF, su]
      refine ⟨ft_1 Q (fu F) u, fun θ1 mg => ?_⟩
      rw [sb_ext (η := .var) F (fun v hv => ?_)]
      · exact sb_id F
      have hvn : v ≠ (mi_sF σ 43 9).toNat := fun e => no (by rw [← e]; exact hv)
      refine ft_fix (mg _ (fu F) u v) (if_neg hvn) fun z hz => ?_
      split at hz
      · exact absurd hz (nv v)
      · injection hz
  obtain ⟨rfl, e1⟩ := step1
  obtain ⟨θ1, f1, mg, u1, C1, w⟩ := CI_ft C h00 S1 Q
  replace e1 := e1 θ1 mg
  have wF : wt F := by rw [← hF]; exact C.2.2.1 _ hx
  have wT : wt t := by rw [← ht]; exact C.2.2.1 _ hy
  have z := w _ hx (by rw [hF, e1]; exact wF)
  have zt := w _ hy (by rw [ht, sb_fx f1 hv]; exact wT)
  obtain ⟨F1, fr, Z1, -, q5, -⟩ := Q
  have q5x := q5 _ x0 x1
  have q5y := q5 _ y0 y1
  have f8 : mi_sF σ1 9 8 = mi_sF σ 9 8 := F1.2.2 9 8 (by decide)
  have e10 : mi_sA σ1 10 = mi_sA σ 10 := sg_Af_Ak F1 (by decide)
  have e43 : mi_sF σ1 43 10 = mi_sF σ 43 10 := F1.2.2 43 10 (by decide)
  have h00' : mi_sA σ1 12 0 = 0 := (ty_H_u S1).2.2.2
  rw [← q5x] at z
  rw [← q5y] at zt
  have hF' : sb θ1 (T (mi_sA σ1 12 (mi_sA σ 33 st))) = F := by rw [z.2, hF, e1]
  have ht' : sb θ1 (T (mi_sA σ1 12 (mi_sF σ 43 10))) = t := by rw [zt.2, ht, sb_fx f1 hv]
  refine ⟨rfl, (F1.2.2 2 0 (by decide)).trans f0, e43, ?_⟩
  refine ty_Ci_s (ty_fits (d := d + 1) C1.1 C1.2.1 (fun n hn q => by rw [F1.2.2 9 9 (by decide), f9]; exact CI_lo C1 n hn q) (by omega) x0 (by rw [f8]; exact x1) y0 (by rw [f8]; exact y1) z.1 zt.1) ?_
  intro x σ2 hh2 S2 Q2
  have uB : ∃ θ, fx (mi_sA σ1 10) θ ∧ sb θ F = t := by
    rw [e10]
    rcases hFF with e | ⟨-, -, θ, a, b⟩
    · exact ⟨_, fu t, by rw [e, su]⟩
    · exact ⟨θ, a, b⟩
  obtain ⟨θb, fb, ub⟩ := uB
  have ub' : sb θb ((fun n => sb θ1 (T n)) (mi_sA σ1 12 (mi_sA σ 33 st))) = sb θb ((fun n => sb θ1 (T n)) (mi_sA σ1 12 (mi_sF σ 43 10))) := by
    show sb θb (sb θ1 _) = sb θb (sb θ1 _)
    rw [hF', ht', ub, sb_fx fb (fun v q => by rw [e10]; exact hv v q)]
  obtain rfl := ft_1 Q2 fb ub'
  obtain ⟨θ2, f2, mg2, u2, C2, w2⟩ := CI_ft C1 h00' S2 Q2
  have st2 : sb θ2 t = t := sb_fx f2 (fun v q => by rw [e10]; exact hv v q)
  have z2 := w2 _ zt.1 (by show wt (sb θ2 (sb θ1 _)); rw [ht', st2]; exact wT)
  obtain ⟨F2, fr2, Z2, -, r5, -⟩ := Q2
  have r5y := r5 _ y0 (by rw [f8]; exact y1)
  rw [← r5y] at z2
  have g8 : mi_sF σ2 9 8 = mi_sF σ1 9 8 := F2.2.2 9 8 (by decide)
  refine ⟨rfl, (F2.2.2 43 10 (by decide)).trans e43, ?_⟩
  exact ke_tail (d := d) C2 y0 (by omega) z2.1 (by show sb θ2 (sb θ1 (T _)) = _; rw [z2.2, ht', st2]) hp hr (by omega) ((F2.2.2 17 14 (by decide)).trans ((F1.2.2 17 14 (by decide)).trans hn)) hn2 ((sg_B F2 43 8).trans ((sg_B F1 43 8).trans hk)) (KF_tr (KF_sg F1 (by decide) (by decide)) (KF_sg F2 (by decide) (by decide))) (fun j => (F2.2.1 25 j (by decide)).trans (F1.2.1 25 j (by decide))) (by omega)
end CI
