/-! ===== the program of seven definitions, from its text ===== -/
/-- the text of the pair's type, as a tree with letters -/
def wE (e0 e1 ew : tr) : Prop := (wt ew ∧ hg ew ≤ 5 ∧ (∀ v, vin v ew → v < 6) ∧ pz ew ≤ 31) ∧ ∀ t0 t1 a b, REN e0 t0 → REN e1 t1 → REN t0 a → REN t1 b → (∀ w, vin w a → ¬ vin w b) → REN (tn 5 a b tr_0) ew
section KS
variable {X : mi_X} {d : Nat} {h0 : mi_H} {Q : mi_Z → Prop} {σ : mi_Sg} {ds : List (Int64 × tr)} {E : Int → Int64} {N s0 p : Int} {l : List (Int × Int × Int)}
theorem kp_w {e0 e1 e2 ew : tr} (I : KI σ ds E N) (D : D6 e0 e1 e2 ds) (W : wE e0 e1 ew) (S : ST σ s0 (dfS ew p s0 ++ l)) (p0 : 0 ≤ p) (p1 : p + ((tkf 0 ew).length + 6) ≤ N) (ek : EKf E p ew 119 101) (hu : mi_sF σ 9 8 + 63 ≤ 512) (hr : mi_sF σ 9 11 < 99990000)
    (K : ∀ σ' t, REN ew t → KI σ' (ds ++ [(119, t)]) E N → KF σ σ' → mi_sF σ' 9 8 ≤ mi_sF σ 9 8 + 63 → mi_sF σ' 9 11 ≤ mi_sF σ 9 11 + 20 → ST σ' (s0 + (dfS ew p s0).length) l → RH X d h0 Q (s0 + (dfS ew p s0).length) σ') : RH X d h0 Q s0 σ := by
  obtain ⟨k1, k2, ky⟩ := ek
  obtain ⟨⟨hw, hh, h6, hp⟩, hre⟩ := W
  have hl := tkf_len (e := ew) (hg ew) rfl hw 0
  have el := dfS_len ew p s0
  rw [el] at K
  unfold dfS at S
  rw [List.cons_append, List.append_assoc, List.cons_append, List.cons_append, List.cons_append, List.nil_append] at S
  obtain ⟨t0, t1, t2, a, b, v, c, x, y, ⟨r0, r1, r2⟩, ⟨ra, rb, rab⟩, -, -, rfl⟩ := D
  refine ks_w (i1 := 3) (k1 := 101) (t1 := tn 5 a b tr_0) I S (by omega) p0 (by omega) (by omega) k1 (by omega) (by omega) k2 rfl rfl (hre t0 t1 a b r0 r1 ra rb rab) (hd_m (ks := [25648, 25649, 25650, 101, 105, 117]) rfl (by decide)) (hd_t (ks := [25648, 25649, 25650, 101, 105, 117]) rfl (by decide)) (Nat.le_of_ble_eq_true rfl) ky hw h6 (by omega) (by omega) hr fun σ' t r I' F f8 f11 S' => K σ' t r I' F (by omega) f11 S'
end KS
theorem comp7 {X : mi_X} {d : Nat} {σ : mi_Sg} {e0 e1 e2 ew : tr} (B : BB σ) (C : BC σ) (tx : TX σ (flc (pgc e0 e1 e2 (dfc 1 7 4 ew)))) (y0 : tyl e0) (y1 : tyl e1) (y2 : tyl e2) (W : wE e0 e1 ew) (hr : mi_sF σ 9 11 < 99970000) : ty_Ci X (d + 72) mi_M5 [(0, .ref 0)] σ (fun x σ' => x = 0 ∧ ∃ ds tw, D6 e0 e1 e2 ds ∧ REN ew tw ∧ PI σ' (ds ++ [(119, tw)]) ∧ BB σ' ∧ mi_sF σ' 9 8 ≤ 230 ∧ mi_sF σ' 9 11 ≤ mi_sF σ 9 11 + 140) := by
  have c0 := tyl_c y0
  have c1 := tyl_c y1
  have c2 := tyl_c y2
  have cw : TYC ew := TYC_all _ ew rfl W.1.1 W.1.2.2.1
  have l0 := tkf_len (e := e0) _ rfl y0.1 0
  have l1 := tkf_len (e := e1) _ rfl y1.1 0
  have l2 := tkf_len (e := e2) _ rfl y2.1 0
  have lw := tkf_len (e := ew) _ rfl W.1.1 0
  have z0 := y0.2.2.2
  have z1 := y1.2.2.2
  have z2 := y2.2.2.2
  have zw := W.1.2.2.2
  have el : (pgc e0 e1 e2 (dfc 1 7 4 ew)).length = ((tkf 0 e0).length + 6) + (((tkf 0 e1).length + 6) + (((tkf 0 e2).length + 6) + (9 + (8 + (14 + ((tkf 0 ew).length + 6)))))) := by
    unfold pgc
    simp only [List.length_append, dfc_len c0, dfc_len c1, dfc_len c2, dfc_len cw]
    rfl
  have ef : ((flc (pgc e0 e1 e2 (dfc 1 7 4 ew))).length : Int) ≤ 1200 := by
    unfold pgc
    simp only [flc_app, List.length_append, Int.natCast_add]
    rw [dfc_fl c0 y0.1, dfc_fl c1 y1.1, dfc_fl c2 y2.1, dfc_fl cw W.1.1]
    have w0 := (prt_len _ e0 rfl y0.1).2
    have w1 := (prt_len _ e1 rfl y1.1).2
    have w2 := (prt_len _ e2 rfl y2.1).2
    have ww := (prt_len _ ew rfl W.1.1).2
    have q1 : ((flc dec).length : Int) = 18 := rfl
    have q2 : ((flc dic).length : Int) = 21 := rfl
    have q3 : ((flc duc).length : Int) = 30 := rfl
    have t1 : ((tokB 1).length : Int) = 2 := rfl
    have t2 : ((tokB 2).length : Int) = 2 := rfl
    have t3 : ((tokB 3).length : Int) = 2 := rfl
    have t4 : ((tokB 7).length : Int) = 1 := rfl
    have t5 : ((tokB 4).length : Int) = 1 := rfl
    omega
  have mk : (pgc e0 e1 e2 (dfc 1 7 4 ew)).map (fun q => tokK q.2) ++ [18] = pgT e0 e1 e2 (dfT ew ++ [18]) := by
    unfold pgc pgT
    simp only [List.map_append, dfc_k c0 (k := 1) (k' := 1) rfl rfl, dfc_k c1 (k := 2) (k' := 2) rfl rfl, dfc_k c2 (k := 3) (k' := 3) rfl rfl, dfc_k cw (k := 7) (k' := 4) rfl rfl, List.append_assoc]
    rfl
  have s0 := fun p => stf_len (e := e0) _ rfl y0.1 0 0 p
  have s1 := fun p => stf_len (e := e1) _ rfl y1.1 0 0 p
  have s2 := fun p => stf_len (e := e2) _ rfl y2.1 0 0 p
  have sw := fun p => stf_len (e := ew) _ rfl W.1.1 0 0 p
  have d0 := dfT_len e0
  have d1 := dfT_len e1
  have d2 := dfT_len e2
  have v0 := dfS_len e0
  have v1 := dfS_len e1
  have v2 := dfS_len e2
  have vw := dfS_len ew
  obtain ⟨p1, hp1⟩ : ∃ p : Int, p = (dfT e0).length := ⟨_, rfl⟩
  obtain ⟨p2, hp2⟩ : ∃ p : Int, p = p1 + (dfT e1).length := ⟨_, rfl⟩
  obtain ⟨p3, hp3⟩ : ∃ p : Int, p = p2 + (dfT e2).length := ⟨_, rfl⟩
  obtain ⟨r1, hs1⟩ : ∃ s : Int, s = (dfS e0 0 0).length := ⟨_, rfl⟩
  obtain ⟨r2, hs2⟩ : ∃ s : Int, s = r1 + (dfS e1 p1 r1).length := ⟨_, rfl⟩
  obtain ⟨r3, hs3⟩ : ∃ s : Int, s = r2 + (dfS e2 p2 r2).length := ⟨_, rfl⟩
  obtain ⟨p6, hp6⟩ : ∃ p : Int, p = p3 + 9 + 8 + 14 := ⟨_, rfl⟩
  obtain ⟨r6, hs6⟩ : ∃ s : Int, s = r3 + 5 + 5 + 8 := ⟨_, rfl⟩
  have a0 := s0 (0 + 3)
  have a1 := s1 (p1 + 3)
  have a2 := s2 (p2 + 3)
  have aw := sw (p6 + 3)
  have b0 := v0 0 0
  have b1 := v1 p1 r1
  have b2 := v2 p2 r2
  have bw := vw p6 r6
  have v4 : (((deS p3 r3).length : Nat) : Int) = 5 := rfl
  have v5 : (((diS (p3 + 9) (r3 + 5)).length : Nat) : Int) = 5 := rfl
  have v6 : (((duS (p3 + 9 + 8) (r3 + 5 + 5)).length : Nat) : Int) = 8 := rfl
  refine comp_g (n := ((pgT e0 e1 e2 (dfT ew ++ [18])).length : Int)) (steps := dfS e0 0 0 ++ (dfS e1 p1 r1 ++ (dfS e2 p2 r2 ++ (deS p3 r3 ++ (diS (p3 + 9) (r3 + 5) ++ (duS (p3 + 9 + 8) (r3 + 5 + 5) ++ (dfS ew p6 r6 ++ [])))))))
    (R := fun σ4 => ∃ ds tw E N, D6 e0 e1 e2 ds ∧ REN ew tw ∧ KI σ4 (ds ++ [(119, tw)]) E N ∧ BB σ4 ∧ mi_sF σ4 9 8 ≤ 230 ∧ mi_sF σ4 9 11 ≤ mi_sF σ 9 11 + 140 ∧ mi_sF σ4 0 10 = 0) B C tx (pgc_ok c0 c1 c2 (dfc_ok cw (by decide) (by decide)) (okh_c (Or.inl Nat.one_pos))) (by rw [el]; omega) (by omega) (fun σ2 g0 g1 T => ?_) ?_ (fun h0 σ3 E I ky S f8 f11 r25 B3 f7 f10 => ?_) ?_
  · rw [mk] at T
    have hl : ((pgT e0 e1 e2 (dfT ew ++ [18])).length : Int) = mi_sF σ2 3 7 := by
      rw [g1, ← mk, List.length_append, List.length_map]
      rfl
    exact pr_six (d := d) (p6 := p6) (s6 := r6) (tL := fun p s => dfS ew p s ++ []) y0 y1 y2 hp1 hp2 hp3 rfl rfl hp6 hs1 hs2 hs3 rfl rfl hs6 (rp_it (n := 5) (m := 6) (ds_df (X := X) (d := d) W.1.1 (by have := W.1.2.1; omega)) ⟨_, rfl⟩ (by omega) (by omega) (by omega) (rp_nil (by omega) (by omega)) (by simp)) (app_ne (by simp)) g0 (by rw [g1, el]; omega) T (by rw [hl]; omega) (by rw [List.append_nil]; omega)
  · simp only [List.length_append, List.length_nil]
    omega
  · obtain ⟨k0, ky⟩ := KYS_a ky
    obtain ⟨k1, ky⟩ := KYS_a ky
    obtain ⟨k2, ky⟩ := KYS_a ky
    obtain ⟨k3, ky⟩ := KYS_a ky
    obtain ⟨k4, ky⟩ := KYS_a ky
    obtain ⟨k5, k6⟩ := KYS_a ky
    have E0 := dfc_e c0 y0.1 y0.2.2.1 k0
    have E1 := dfc_e c1 y1.1 y1.2.2.1 k1
    have E2 := dfc_e c2 y2.1 y2.2.2.1 k2
    have E3 := dec_e k3
    have E4 := dic_e k4
    have E5 := duc_e k5
    have E6 := dfc_e cw W.1.1 W.1.2.2.1 k6
    have n3 : ((dec.length : Nat) : Int) = 9 := rfl
    have n4 : ((dic.length : Nat) : Int) = 8 := rfl
    have n5 : ((duc.length : Nat) : Int) = 14 := rfl
    rw [dfc_len c0] at E1 E2 E3 E4 E5 E6
    rw [dfc_len c1] at E2 E3 E4 E5 E6
    rw [dfc_len c2] at E3 E4 E5 E6
    rw [n3] at E4 E5 E6
    rw [n4] at E5 E6
    rw [n5] at E6
    rw [show (0 : Int) + ((((tkf 0 e0).length + 6 : Nat)) : Int) = p1 by omega] at E1 E2 E3 E4 E5 E6
    rw [show p1 + ((((tkf 0 e1).length + 6 : Nat)) : Int) = p2 by omega] at E2 E3 E4 E5 E6
    rw [show p2 + ((((tkf 0 e2).length + 6 : Nat)) : Int) = p3 by omega] at E3 E4 E5 E6
    rw [← hp6] at E6
    refine pg6 (N := ((pgc e0 e1 e2 (dfc 1 7 4 ew)).length : Int) + 1) I S (by omega) (by omega) (by omega) rfl rfl (by rw [el]; omega) hs1 hs2 hs3 rfl rfl hs6 y0 y1 y2 E0 E1 E2 E3 E4 E5 f8 (by omega) fun σ4 ds D I4 F4 g8 g11 g25 S4 => ?_
    refine kp_w I4 D W S4 (by omega) (by rw [el]; omega) E6 (by omega) (by omega) fun σ5 t rt I5 F5 h8 h11 S5 => ?_
    have F45 := KF_tr F4 F5
    have sz : r6 + (dfS ew p6 r6).length = mi_sF σ5 26 7 := by
      rw [F45.2.1 26 7 (by decide), f7]
      simp only [List.length_append, List.length_nil, Int.natCast_add]
      omega
    exact rh_end (P := fun σ4 => ∃ ds tw E N, D6 e0 e1 e2 ds ∧ REN ew tw ∧ KI σ4 (ds ++ [(119, tw)]) E N ∧ BB σ4 ∧ mi_sF σ4 9 8 ≤ 230 ∧ mi_sF σ4 9 11 ≤ mi_sF σ 9 11 + 140 ∧ mi_sF σ4 0 10 = 0) (by omega) sz S5.1.2.2 ⟨ds, t, E, _, D, rt, I5, BB_K B3 F45, by omega, by omega, (F45.2.1 0 10 (by decide)).trans f10⟩
  · rintro σ4 ⟨ds, tw, E, N, D, rt, I4, B4, g8, g11, f10⟩
    exact ⟨I4.2.1.1.2.1, rfl, ds, tw, D, rt, PI_of I4 f10, BB_c B4 (fun _ => rfl) (fun _ => rfl) (fun _ => rfl) (fun _ _ _ => rfl), g8, g11⟩
