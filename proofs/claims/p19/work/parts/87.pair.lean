/-! ===== def e = (d0, d1) ===== -/
section KS
variable {X : mi_X} {d : Nat} {h0 : mi_H} {Q : mi_Z → Prop} {σ0 σ : mi_Sg} {ds : List (Int64 × tr)} {E : Int → Int64} {N s0 p : Int} {key : Int64} {l : List (Int × Int × Int)} {Sx : Int → Prop} {T : Int → tr} {u : Int}
theorem pz_tn5 (a b : tr) : pz (tn 5 a b tr_0) = 1 + pz a + pz b := by
  rw [pz_tn (by decide)]
  show _ + 0 = _
  omega
theorem pz_tn6 (a b : tr) : pz (tn 6 a b tr_0) = 1 + pz a + pz b := by
  rw [pz_tn (by decide)]
  show _ + 0 = _
  omega
/-- the end of a definition without a form -/
theorem ks_end0 {st x : Int} (M : MI Sx T σ0 σ ds E N key u) (S : ST σ s0 ((12, st, p) :: l)) (st0 : 0 ≤ st) (st1 : st < s0) (f10 : mi_sF σ 43 10 = 0) (h33 : mi_sA σ 33 st = x) (hx : Sx x) (hF2 : ∀ v, T x ≠ .var v) (hp : pz (T x) ≤ 120) (hno : ¬ vin u.toNat (T x)) (hn : ds.length < 24) (hr : mi_sF σ 9 11 < 99999000)
    (K : ∀ σ', KI σ' (ds ++ [(key, T x)]) E N → KF σ0 σ' → mi_sF σ' 9 8 = mi_sF σ 9 8 → mi_sF σ' 9 11 ≤ mi_sF σ 9 11 + 4 → (∀ j, mi_sA σ' 25 j = mi_sA σ 25 j) → ST σ' (s0 + 1) l → RH X d h0 Q (s0 + 1) σ') : RH X d h0 Q s0 σ := by
  refine RH_S fun h hS => ?_
  obtain ⟨C, ⟨G, KK, n14⟩, ⟨o9, o7, o8⟩, hu', hu3⟩ := M
  obtain ⟨⟨kbb, g2, g3, g4⟩, g5, g6, g7⟩ := id G
  have hh := ty_H_u hS
  obtain ⟨⟨s1, s2, s3⟩, ⟨e1, e2, e3⟩, S3⟩ := ST_c S
  have gx := C.1.2 x hx
  refine rh_step s1 s2 s3 g2 e1 e2 e3 (by omega) (ts_end (d := d + 9) g5 s1 s2 s3 e2 e3 (ke_0 (d := d + 6) (F := T x) (key := key) C hh.2.2.2 g5 st0 (by omega) s3 g2 f10 g6 (by rw [h33]; exact gx.1.1) (by rw [h33]; exact gx.1.2) (by rw [h33, gx.2.1]; exact hx) (by rw [h33, gx.2.1]) hF2 hp (by rw [o9]; exact hu') (by rw [o9]; exact hu3) (by rw [o9]; exact hno) hr n14 hn o8)) ?_
  rintro σ' ⟨hC, KF', n', r25c, f8c, f11c, z44⟩
  exact K σ' ⟨hC, GI_K G KF', n', z44⟩ (KF_tr KK KF') f8c f11c r25c (ST_K KF' S3)
theorem CI_vl {v : Nat} {n : Int} (C : CI Sx T σ ds) (hn : Sx n) (hv : vin v (T n)) : 0 < (v : Int) ∧ (v : Int) < mi_sF σ 9 8 := (C.1.2 _ (ty_T_vin C.1 _ _ rfl hn hv).1).1
/-- the scope, the stack of values, the form -/
def FRS (σ σ' : mi_Sg) : Prop := mi_sF σ' 44 3 = mi_sF σ 44 3 ∧ mi_sF σ' 43 10 = mi_sF σ 43 10 ∧ mi_sF σ' 48 7 = mi_sF σ 48 7 ∧ (∀ j, mi_sE σ' 45 j = mi_sE σ 45 j) ∧ (∀ j, mi_sA σ' 46 j = mi_sA σ 46 j) ∧ ∀ j, mi_sA σ' 47 j = mi_sA σ 47 j
theorem ks_pr {a b x y : Int} (M : MI Sx T σ0 σ ds E N key u) (S : ST σ s0 ((24, a, b) :: l)) (a0 : 0 ≤ a) (a1 : a < s0) (b0 : 0 ≤ b) (b1 : b < s0) (ax : mi_sA σ 33 a = x) (bx : mi_sA σ 33 b = y) (hx : Sx x) (hy : Sx y) (hu : mi_sF σ 9 8 < 512)
    (K : ∀ Sx' T' σ' z, MI Sx' T' σ0 σ' ds E N key u → (∀ n, Sx n → Sx' n ∧ T' n = T n) → Sx' z → T' z = tn 5 (T x) (T y) tr_0 → mi_sA σ' 33 s0 = z → (∀ j, j ≠ s0 → mi_sA σ' 33 j = mi_sA σ 33 j) → (∀ j, mi_sA σ' 25 j = mi_sA σ 25 j) → mi_sF σ' 9 8 = mi_sF σ 9 8 + 1 → mi_sF σ' 9 11 = mi_sF σ 9 11 → FRS σ σ' → ST σ' (s0 + 1) l → RH X d h0 Q (s0 + 1) σ') : RH X d h0 Q s0 σ := by
  refine RH_S fun h hS => ?_
  obtain ⟨C, ⟨G, KK, n14⟩, ⟨o9, o7, o8⟩, hu', hu3⟩ := id M
  obtain ⟨⟨kbb, g2, g3, g4⟩, g5, g6, g7⟩ := id G
  have hh := ty_H_u hS
  have hf := ty_H_f hS
  obtain ⟨⟨s1, s2, s3⟩, ⟨e1, e2, e3⟩, S4⟩ := ST_c S
  refine rh_expr s1 s2 s3 g2 e1 e2 e3 (by omega) (te_pair (d := d + 9) g5 a0 (by omega) b0 (by omega) s3 hu) (fun x σ' q => by rw [q.2]; rfl) ?_
  rintro z σ4 ⟨rfl, rfl⟩
  rw [ax, bx]
  have F4 := ty_mk_F (σ := σ) (g := 5) (a := x) (b := y) (c := 0)
  have X4 := ty_mk_X (σ := σ) (g := 5) (a := x) (b := y) (c := 0) (by omega)
  have K4 : KF σ (mi_uA (ty_mk σ 5 x y 0) 33 s0 (mi_sF σ 9 8)) := KF_uA (KF_sx F4 X4.1 (by omega) (by decide) (by decide)) (by decide)
  have C4 := CI_mk (g := 5) C hh.2.2.2 (by omega) (Or.inr ⟨Or.inl rfl, hx, hy, rfl⟩)
  have gu := C.1.2 u hu'
  refine K (fun n => Sx n ∨ n = mi_sF σ 9 8) (fun n => if n = mi_sF σ 9 8 then tn 5 (T x) (T y) tr_0 else T n) (mi_uA (ty_mk σ 5 x y 0) 33 s0 (mi_sF σ 9 8)) (mi_sF σ 9 8) ⟨CI_s C4 ⟨⟨rfl, rfl⟩, rfl, rfl, rfl, rfl, rfl, rfl⟩, ⟨GI_K G K4, KF_tr KK K4, (F4.2.2 17 14 (by decide)).trans n14⟩, ⟨(F4.2.2 43 9 (by decide)).trans o9, (F4.2.2 43 7 (by decide)).trans o7, (sg_B F4 43 8).trans o8⟩, Or.inl hu', ?_⟩ (fun n hn => ⟨Or.inl hn, if_neg ?_⟩) (Or.inr rfl) (if_pos rfl) ?_ (fun j hj => ?_) (fun j => ?_) X4.2.2.2.2.2.2.2.2.2 (F4.2.2 9 11 (by decide)) ⟨F4.2.2 44 3 (by decide), F4.2.2 43 10 (by decide), F4.2.2 48 7 (by decide), fun j => ?_, fun j => F4.2.1 46 j (by decide), fun j => F4.2.1 47 j (by decide)⟩ (ST_K K4 S4)
  · show mi_sA (ty_mk σ 5 x y 0) 10 u = 3
    rw [(X4.1.2.1 u gu.1.1 gu.1.2).1]; exact hu3
  · have := (C.1.2 n hn).1
    omega
  · rw [mi_AA, if_pos ⟨rfl, rfl⟩]
  · rw [mi_AA, if_neg (fun q => hj q.2)]
    exact F4.2.1 33 j (by decide)
  · rw [mi_AA, if_neg (fun q => absurd q.1 (by decide))]
    exact F4.2.1 25 j (by decide)
  · show mi_sE (ty_mk σ 5 x y 0) 45 j = _
    rw [sg_E F4 45]
/-- def e = (d0, d1) -/
theorem ks_pair {i1 i2 : Nat} {k1 k2 : Int64} {t1 t2 : tr} {ta tb a b st : Int} (I : KI σ ds E N) (S : ST σ s0 ((10, p, 0) :: (21, ta, 0) :: (21, tb, 0) :: (24, a, b) :: (12, st, p) :: l)) (ha : a = s0 + 1) (hb : b = s0 + 2) (hst : st = s0 + 3) (p0 : 0 ≤ p) (p2 : p + 1 < N) (ek : E (p + 1) = key) (ta0 : 0 ≤ ta) (ta1 : ta < N) (eka : E ta = k1) (tb0 : 0 ≤ tb) (tb1 : tb < N) (ekb : E tb = k2) (hi1 : ds[i1]? = some (k1, t1)) (hi2 : ds[i2]? = some (k2, t2)) (hd : ∀ (i : Nat) (q : Int64 × tr), ds[i]? = some q → q.1 ≠ key) (hd1 : ∀ (j : Nat) (q : Int64 × tr), j < i1 → ds[j]? = some q → q.1 ≠ k1) (hd2 : ∀ (j : Nat) (q : Int64 × tr), j < i2 → ds[j]? = some q → q.1 ≠ k2) (hn : ds.length < 24) (hp : pz t1 + pz t2 ≤ 119) (hu : mi_sF σ 9 8 + 2 + (pz t1 + pz t2) ≤ 512) (hr : mi_sF σ 9 11 < 99990000)
    (K : ∀ σ' x y, REN t1 x → REN t2 y → (∀ v, vin v x → ¬ vin v y) → KI σ' (ds ++ [(key, tn 5 x y tr_0)]) E N → KF σ σ' → mi_sF σ' 9 8 ≤ mi_sF σ 9 8 + (2 + (pz t1 + pz t2)) → mi_sF σ' 9 11 ≤ mi_sF σ 9 11 + 20 → (∀ j, mi_sA σ' 25 j = (mi_sA σ 25 j + if j = ds.length * 24 + i1 then 1 else 0) + if j = ds.length * 24 + i2 then 1 else 0) → ST σ' (s0 + 5) l → RH X d h0 Q (s0 + 5) σ') : RH X d h0 Q s0 σ := by
  have q1 := pz_0 t1
  have q2 := pz_0 t2
  refine ks_begin I S p0 p2 ek hd hn (by omega) fun Sx T σ1 u M B0 u1 f8 f11 r25 S1 => ?_
  have u0 : 0 < u := (M.1.1.2 u M.2.2.2.1).1.1
  refine ks_name M S1 ta0 ta1 eka hi1 hd1 (hd i1 _ hi1) hn (by omega) (by omega) (fun j x y => by omega) (by omega) (by omega) fun S2 T2 σ2 x ν M2 kp hx ex nl ni r33 r33b r25b f8b f11b fr S2' => ?_
  refine ks_name M2 S2' tb0 tb1 ekb hi2 hd2 (hd i2 _ hi2) hn (by omega) (by omega) (fun j x y => by omega) (by omega) (by omega) fun S3 T3 σ3 y ν' M3 kp' hy ey nl' ni' q33 q33b q25b g8b g11b gr S3' => ?_
  have ax : mi_sA σ3 33 a = x := by rw [q33b a (by omega), ha]; exact r33
  have by' : mi_sA σ3 33 b = y := by rw [hb, show s0 + 2 = s0 + 1 + 1 by omega]; exact q33
  have hx3 := kp' x hx
  have hT : T3 x = sb (fun v => .var (ν v)) t1 := hx3.2.trans ex
  have s1 := S.1.1
  refine ks_pr M3 S3' (by omega) (by omega) (by omega) (by omega) ax by' hx3.1 hy (by omega) fun S4 T4 σ4 z M4 kp4 hz ez w33 w33b w25 w8 w11 wf S5 => ?_
  have bx : ∀ v, vin v (T3 x) → (v : Int) < mi_sF σ2 9 8 ∧ mi_sF σ1 9 8 ≤ (v : Int) := fun v hv => by
    rw [hx3.2] at hv
    refine ⟨(CI_vl M2.1 hx hv).2, ?_⟩
    rw [ex] at hv
    obtain ⟨w, hw, e⟩ := vin_sb _ hv
    have e' : ν w = v := e
    rw [← e']
    exact (nl w hw).1
  have by'' : ∀ v, vin v (T3 y) → mi_sF σ2 9 8 ≤ (v : Int) := fun v hv => by
    rw [ey] at hv
    obtain ⟨w, hw, e⟩ := vin_sb _ hv
    have e' : ν' w = v := e
    rw [← e']
    exact (nl' w hw).1
  have pzx : pz (T3 x) = pz t1 := by rw [hT, pz_sbv]
  have pzy : pz (T3 y) = pz t2 := by rw [ey, pz_sbv]
  refine ks_end0 (x := z) M4 S5 (by omega) (by omega) ?_ (by rw [hst, show s0 + 3 = s0 + 1 + 1 + 1 by omega]; exact w33) hz (by rw [ez]; exact fun v => tn_var) ?_ ?_ hn (by omega) fun σ' KI' KF' f8' f11' r25' S6 => ?_
  · rw [wf.2.1, gr.2.1, fr.2.1]; exact B0.2.1
  · rw [ez, pz_tn5]; omega
  · rw [ez, vin_tn]
    rintro (w | w | w)
    · have := (bx _ w).2
      omega
    · have := by'' _ w
      omega
    · exact w.elim
  · rw [ez] at KI'
    have ei : s0 + 1 + 1 + 1 + 1 + 1 = s0 + 5 := by omega
    rw [ei] at S6 ⊢
    refine K σ' (T3 x) (T3 y) ⟨ν, hT, ni⟩ ⟨ν', ey, ni'⟩ (fun v hv hw => ?_) KI' KF' (by omega) (by omega) (fun j => ?_) S6
    · have := (bx v hv).1
      have := by'' v hw
      omega
    · rw [r25' j, w25 j, q25b j, r25b j, r25 j]
      split <;> split <;> omega
end KS
