/-! ===== def i = fun x -> d2 ===== -/
section KS
variable {X : mi_X} {d : Nat} {h0 : mi_H} {Q : mi_Z → Prop} {σ0 σ : mi_Sg} {ds : List (Int64 × tr)} {E : Int → Int64} {N s0 p : Int} {key : Int64} {l : List (Int × Int × Int)} {Sx : Int → Prop} {T : Int → tr} {u : Int}
/-- fun x: an unknown in the scope -/
theorem ks_bind {tx : Int} {kx : Int64} (M : MI Sx T σ0 σ ds E N key u) (S : ST σ s0 ((15, tx, 0) :: l)) (t0 : 0 ≤ tx) (t1 : tx < N) (ek : E tx = kx) (z44 : mi_sF σ 44 3 = 0) (hu : mi_sF σ 9 8 < 512)
    (K : ∀ Sx' T' σ' x, MI Sx' T' σ0 σ' ds E N key u → (∀ n, Sx n → Sx' n ∧ T' n = T n) → Sx' x → T' x = .var x.toNat → x = mi_sF σ 9 8 → (mi_sF σ' 44 3 = 1 ∧ mi_sE σ' 45 0 = kx ∧ mi_sA σ' 46 0 = x ∧ mi_sA σ' 47 0 = 0) → mi_sF σ' 43 10 = mi_sF σ 43 10 → (∀ j, mi_sA σ' 33 j = mi_sA σ 33 j) → (∀ j, mi_sA σ' 25 j = mi_sA σ 25 j) → mi_sF σ' 9 8 = mi_sF σ 9 8 + 1 → mi_sF σ' 9 11 = mi_sF σ 9 11 → ST σ' (s0 + 1) l → RH X d h0 Q (s0 + 1) σ') : RH X d h0 Q s0 σ := by
  refine RH_S fun h hS => ?_
  obtain ⟨C, ⟨G, KK, n14⟩, ⟨o9, o7, o8⟩, hu', hu3⟩ := id M
  obtain ⟨⟨kbb, g2, g3, g4⟩, g5, g6, g7⟩ := id G
  have hh := ty_H_u hS
  have hf := ty_H_f hS
  obtain ⟨⟨s1, s2, s3⟩, ⟨e1, e2, e3⟩, S4⟩ := ST_c S
  have F4 := ty_mk_F (σ := σ) (g := 3) (a := 0) (b := 0) (c := 0)
  have X4 := ty_mk_X (σ := σ) (g := 3) (a := 0) (b := 0) (c := 0) (by omega)
  have C4 := CI_mk (g := 3) (a := 0) (b := 0) C hh.2.2.2 (by omega) (Or.inl ⟨rfl, rfl, rfl, rfl⟩)
  have gu := C.1.2 u hu'
  have f44 : mi_sF (ty_mk σ 3 0 0 0) 44 3 = 0 := (F4.2.2 44 3 (by decide)).trans z44
  refine rh_step s1 s2 s3 g2 e1 e2 e3 (by omega) (ts_bind (P := fun _ => True) (d := d + 9) g5 s1 s2 s3 e2 t0 (by omega) (by omega) (by omega) (by omega) hu) ?_
  rintro σ' rfl
  rw [f44]
  have K4 : KF σ (mi_uF (mi_uA (mi_uA (mi_uE (ty_mk σ 3 0 0 0) 45 0 (mi_sE σ 8 tx)) 46 0 (mi_sF σ 9 8)) 47 0 0) 44 3 (0 + 1)) := KF_uF (KF_uA (KF_uA (KF_uE (KF_sx F4 X4.1 (by omega) (by decide) (by decide)) (Or.inr rfl)) (by decide)) (by decide)) (by decide)
  refine K (fun n => Sx n ∨ n = mi_sF σ 9 8) (fun n => if n = mi_sF σ 9 8 then .var (mi_sF σ 9 8).toNat else T n) (mi_uF (mi_uA (mi_uA (mi_uE (ty_mk σ 3 0 0 0) 45 0 (mi_sE σ 8 tx)) 46 0 (mi_sF σ 9 8)) 47 0 0) 44 3 (0 + 1)) (mi_sF σ 9 8) ⟨CI_s C4 ⟨⟨rfl, rfl⟩, rfl, rfl, rfl, rfl, rfl, rfl⟩, ⟨GI_K G K4, KF_tr KK K4, (F4.2.2 17 14 (by decide)).trans n14⟩, ⟨(F4.2.2 43 9 (by decide)).trans o9, (F4.2.2 43 7 (by decide)).trans o7, (sg_B F4 43 8).trans o8⟩, Or.inl hu', ?_⟩ (fun n hn => ⟨Or.inl hn, if_neg ?_⟩) (Or.inr rfl) (if_pos rfl) rfl ⟨?_, ?_, ?_, ?_⟩ (F4.2.2 43 10 (by decide)) (fun j => F4.2.1 33 j (by decide)) (fun j => F4.2.1 25 j (by decide)) X4.2.2.2.2.2.2.2.2.2 (F4.2.2 9 11 (by decide)) (ST_K K4 S4)
  · show mi_sA (ty_mk σ 3 0 0 0) 10 u = 3
    rw [(X4.1.2.1 u gu.1.1 gu.1.2).1]; exact hu3
  · have := (C.1.2 n hn).1
    omega
  · rw [mi_FF, if_pos ⟨rfl, rfl⟩]; rfl
  · rw [mi_EF, mi_EA, mi_EA, mi_EE, if_pos ⟨rfl, rfl⟩, g7]; exact ek
  · rw [mi_AF, mi_AA, if_neg (fun q => absurd q.1 (by decide)), mi_AA, if_pos ⟨rfl, rfl⟩]
  · rw [mi_AF, mi_AA, if_pos ⟨rfl, rfl⟩]
/-- def i = fun x -> d2 -/
theorem ks_fun {i2 : Nat} {k2 kx : Int64} {t2 : tr} {tx tb a st : Int} (I : KI σ ds E N) (S : ST σ s0 ((10, p, 0) :: (15, tx, 0) :: (21, tb, 0) :: (30, a, 1) :: (12, st, p) :: l)) (ha : a = s0 + 2) (hst : st = s0 + 3) (p0 : 0 ≤ p) (p2 : p + 1 < N) (ek : E (p + 1) = key) (tx0 : 0 ≤ tx) (tx1 : tx < N) (ekx : E tx = kx) (tb0 : 0 ≤ tb) (tb1 : tb < N) (ekb : E tb = k2) (hi2 : ds[i2]? = some (k2, t2)) (hkx : kx ≠ k2) (hd : ∀ (i : Nat) (q : Int64 × tr), ds[i]? = some q → q.1 ≠ key) (hd2 : ∀ (j : Nat) (q : Int64 × tr), j < i2 → ds[j]? = some q → q.1 ≠ k2) (hn : ds.length < 24) (hp : pz t2 ≤ 118) (hu : mi_sF σ 9 8 + 3 + pz t2 ≤ 512) (hr : mi_sF σ 9 11 < 99990000)
    (K : ∀ σ' v y, REN t2 y → ¬ vin v y → KI σ' (ds ++ [(key, tn 6 (.var v) y tr_0)]) E N → KF σ σ' → mi_sF σ' 9 8 ≤ mi_sF σ 9 8 + (3 + pz t2) → mi_sF σ' 9 11 ≤ mi_sF σ 9 11 + 20 → (∀ j, mi_sA σ' 25 j = mi_sA σ 25 j + if j = ds.length * 24 + i2 then 1 else 0) → ST σ' (s0 + 5) l → RH X d h0 Q (s0 + 5) σ') : RH X d h0 Q s0 σ := by
  have q2 := pz_0 t2
  have z1 := S.1.1
  refine ks_begin I S p0 p2 ek hd hn (by omega) fun Sx T σ1 u M B0 u1 f8 f11 r25 S1 => ?_
  have u0 : 0 < u := (M.1.1.2 u M.2.2.2.1).1.1
  refine ks_bind M S1 tx0 tx1 ekx B0.1 (by omega) fun S2 T2 σ2 x M2 kp hx ex xe sc f10 r33 r25b f8b f11b S2' => ?_
  refine ks_name M2 S2' tb0 tb1 ekb hi2 hd2 (hd i2 _ hi2) hn (by omega) (by omega) (fun j j0 j1 => ?_) (by omega) (by omega) fun S3 T3 σ3 y ν M3 kp' hy ey nl ni q33 q33b q25b g8b g11b gr S3' => ?_
  · rw [show j = 0 by omega, sc.2.1]; exact hkx
  refine RH_S fun h hS => ?_
  obtain ⟨C, ⟨G, KK, n14⟩, ⟨o9, o7, o8⟩, hu', hu3⟩ := id M3
  obtain ⟨⟨kbb, g2, g3, g4⟩, g5, g6, g7⟩ := id G
  have hh := ty_H_u hS
  have hf := ty_H_f hS
  obtain ⟨⟨s1, s2, s3⟩, ⟨e1, e2, e3⟩, S4⟩ := ST_c S3'
  have hx3 := kp' x hx
  have z3 : mi_sF σ3 44 3 = 1 := by rw [gr.1]; exact sc.1
  have e46 : mi_sA σ3 46 (mi_sF σ3 44 3 - 1 - 0) = x := by
    rw [z3, gr.2.2.2.2.1]
    exact sc.2.2.1
  have e33 : mi_sA σ3 33 a = y := by rw [ha, show s0 + 2 = s0 + 1 + 1 by omega]; exact q33
  refine rh_expr s1 s2 s3 g2 e1 e2 e3 (by omega) (te_fun (d := d + 10) (ck_fun (d := d + 8) g5 (by omega) (by omega) s3 (by omega) (by omega) (by omega))) (fun x σ' q => by rw [q.2]; rfl) ?_
  rintro z σ4 ⟨rfl, rfl⟩
  rw [e46, e33]
  have F4 := ty_mk_F (σ := σ3) (g := 6) (a := x) (b := y) (c := 0)
  have X4 := ty_mk_X (σ := σ3) (g := 6) (a := x) (b := y) (c := 0) (by omega)
  have K4 : KF σ3 (mi_uA (mi_uF (ty_mk σ3 6 x y 0) 44 3 (mi_sF σ3 44 3 - 1)) 33 (s0 + 1 + 1 + 1) (mi_sF σ3 9 8)) := KF_uA (KF_uF (KF_sx F4 X4.1 (by omega) (by decide) (by decide)) (by decide)) (by decide)
  have C4 := CI_mk (g := 6) C hh.2.2.2 (by omega) (Or.inr ⟨Or.inr rfl, hx3.1, hy, rfl⟩)
  have gu := C.1.2 u hu'
  have M4 : MI (fun n => S3 n ∨ n = mi_sF σ3 9 8) (fun n => if n = mi_sF σ3 9 8 then tn 6 (T3 x) (T3 y) tr_0 else T3 n) σ (mi_uA (mi_uF (ty_mk σ3 6 x y 0) 44 3 (mi_sF σ3 44 3 - 1)) 33 (s0 + 1 + 1 + 1) (mi_sF σ3 9 8)) ds E N key u := ⟨CI_s C4 ⟨⟨rfl, rfl⟩, rfl, rfl, rfl, rfl, rfl, rfl⟩, ⟨GI_K G K4, KF_tr KK K4, (F4.2.2 17 14 (by decide)).trans n14⟩, ⟨(F4.2.2 43 9 (by decide)).trans o9, (F4.2.2 43 7 (by decide)).trans o7, (sg_B F4 43 8).trans o8⟩, Or.inl hu', by
    show mi_sA (ty_mk σ3 6 x y 0) 10 u = 3
    rw [(X4.1.2.1 u gu.1.1 gu.1.2).1]; exact hu3⟩
  have eT : (if mi_sF σ3 9 8 = mi_sF σ3 9 8 then tn 6 (T3 x) (T3 y) tr_0 else T3 (mi_sF σ3 9 8)) = tn 6 (.var x.toNat) (T3 y) tr_0 := by
    rw [if_pos rfl, hx3.2, ex]
  have pzy : pz (T3 y) = pz t2 := by rw [ey, pz_sbv]
  have by' : ∀ v, vin v (T3 y) → mi_sF σ2 9 8 ≤ (v : Int) := fun v hv => by
    rw [ey] at hv
    obtain ⟨w, hw, e⟩ := vin_sb _ hv
    have e' : ν w = v := e
    rw [← e']
    exact (nl w hw).1
  refine ks_end0 (x := mi_sF σ3 9 8) M4 (ST_K K4 S4) (by omega) (by omega) ?_ ?_ (Or.inr rfl) ?_ ?_ ?_ hn ?_ fun σ' KI' KF' f8' f11' r25' S5 => ?_
  · show mi_sF (ty_mk σ3 6 x y 0) 43 10 = 0
    rw [F4.2.2 43 10 (by decide), gr.2.1, f10]; exact B0.2.1
  · rw [mi_AA, if_pos ⟨rfl, by omega⟩]
  · rw [eT]
    exact fun v => tn_var
  · rw [eT, pz_tn6]
    show 1 + 1 + pz (T3 y) ≤ 120
    omega
  · rw [eT, vin_tn]
    rintro (w | w | w)
    · have w' : x.toNat = u.toNat := w
      omega
    · have := by' _ w
      omega
    · exact w.elim
  · show mi_sF (ty_mk σ3 6 x y 0) 9 11 < _
    rw [F4.2.2 9 11 (by decide)]; omega
  · rw [eT] at KI'
    have ei : s0 + 1 + 1 + 1 + 1 + 1 = s0 + 5 := by omega
    rw [ei] at S5 ⊢
    refine K σ' x.toNat (T3 y) ⟨ν, ey, ni⟩ (fun hv => ?_) KI' KF' ?_ ?_ (fun j => ?_) S5
    · have := by' _ hv
      omega
    · have : mi_sF σ' 9 8 = mi_sF σ3 9 8 + 1 := f8'.trans X4.2.2.2.2.2.2.2.2.2
      omega
    · have : mi_sF (mi_uA (mi_uF (ty_mk σ3 6 x y 0) 44 3 (mi_sF σ3 44 3 - 1)) 33 (s0 + 1 + 1 + 1) (mi_sF σ3 9 8)) 9 11 = mi_sF σ3 9 11 := F4.2.2 9 11 (by decide)
      omega
    · have : mi_sA (mi_uA (mi_uF (ty_mk σ3 6 x y 0) 44 3 (mi_sF σ3 44 3 - 1)) 33 (s0 + 1 + 1 + 1) (mi_sF σ3 9 8)) 25 j = mi_sA σ3 25 j := by
        rw [mi_AA, if_neg (fun q => absurd q.1 (by decide)), mi_AF]
        exact F4.2.1 25 j (by decide)
      rw [r25' j, this, q25b j, r25b j, r25 j]
      split <;> omega
end KS
