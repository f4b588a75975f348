/-! ===== def u = let v = d0 in (v, v), whole ===== -/
theorem REN_tr {a b c : tr} (h : REN a b) (g : REN b c) : REN a c := by
  obtain ⟨μ, e, i⟩ := h
  obtain ⟨ν, e', i'⟩ := g
  refine ⟨fun v => ν (μ v), ?_, fun v w hv hw q => i v w hv hw (i' _ _ ?_ ?_ q)⟩
  · rw [e', e, sb_sb]
    rfl
  · rw [e]; exact vin_sb' (θ := fun v => .var (μ v)) (v := v) rfl a hv
  · rw [e]; exact vin_sb' (θ := fun v => .var (μ v)) (v := w) rfl a hw
theorem REN_pz {a b : tr} (h : REN a b) : pz b = pz a := by
  obtain ⟨μ, e, -⟩ := h
  rw [e, pz_sbv]
section KS
variable {X : mi_X} {d : Nat} {h0 : mi_H} {Q : mi_Z → Prop} {σ0 σ : mi_Sg} {ds : List (Int64 × tr)} {E : Int → Int64} {N s0 p : Int} {key : Int64} {l : List (Int × Int × Int)} {Sx : Int → Prop} {T : Int → tr} {u : Int}
theorem ks_let {i1 : Nat} {k1 kv : Int64} {t1 : tr} {td a tv wa wb b c e st : Int} (I : KI σ ds E N) (S : ST σ s0 ((10, p, 0) :: (21, td, 0) :: (16, a, tv) :: (21, wa, 0) :: (21, wb, 0) :: (24, b, c) :: (31, e, 0) :: (12, st, p) :: l)) (ha : a = s0 + 1) (hb : b = s0 + 3) (hc : c = s0 + 4) (he : e = s0 + 5) (hst : st = s0 + 6) (p0 : 0 ≤ p) (p2 : p + 1 < N) (ek : E (p + 1) = key) (td0 : 0 ≤ td) (td1 : td < N) (ekd : E td = k1) (tv0 : 0 ≤ tv) (tv1 : tv < N) (ekv : E tv = kv) (wa0 : 0 ≤ wa) (wa1 : wa < N) (eka : E wa = kv) (wb0 : 0 ≤ wb) (wb1 : wb < N) (ekb : E wb = kv) (hi1 : ds[i1]? = some (k1, t1)) (hd : ∀ (i : Nat) (q : Int64 × tr), ds[i]? = some q → q.1 ≠ key) (hd1 : ∀ (j : Nat) (q : Int64 × tr), j < i1 → ds[j]? = some q → q.1 ≠ k1) (hn : ds.length < 24) (hp : pz t1 ≤ 59) (hu : mi_sF σ 9 8 + 2 + 3 * pz t1 ≤ 512) (hr : mi_sF σ 9 11 < 99990000)
    (K : ∀ σ' x y, REN t1 x → REN t1 y → (∀ v, vin v x → ¬ vin v y) → KI σ' (ds ++ [(key, tn 5 x y tr_0)]) E N → KF σ σ' → mi_sF σ' 9 8 ≤ mi_sF σ 9 8 + (2 + 3 * pz t1) → mi_sF σ' 9 11 ≤ mi_sF σ 9 11 + 20 → (∀ j, mi_sA σ' 25 j = mi_sA σ 25 j + if j = ds.length * 24 + i1 then 1 else 0) → ST σ' (s0 + 8) l → RH X d h0 Q (s0 + 8) σ') : RH X d h0 Q s0 σ := by
  have q1 := pz_0 t1
  have z1 := S.1.1
  refine ks_begin I S p0 p2 ek hd hn (by omega) fun Sx T σ1 u M B0 u1 f8 f11 r25 S1 => ?_
  have u0 : 0 < u := (M.1.1.2 u M.2.2.2.1).1.1
  refine ks_name M S1 td0 td1 ekd hi1 hd1 (hd i1 _ hi1) hn (by omega) (by omega) (fun j x y => by omega) (by omega) (by omega) fun S2 T2 σ2 x ν M2 kp hx ex nl ni r33 r33b r25b f8b f11b fr S2' => ?_
  have rx : REN t1 (T2 x) := ⟨ν, ex, ni⟩
  have pzx := REN_pz rx
  have bx : ∀ v, vin v (T2 x) → mi_sF σ1 9 8 ≤ (v : Int) := fun v hv => by
    rw [ex] at hv
    obtain ⟨w, hw, e⟩ := vin_sb _ hv
    have e' : ν w = v := e
    rw [← e']
    exact (nl w hw).1
  refine RH_S fun h hS => ?_
  obtain ⟨C, ⟨G, KK, n14⟩, ⟨o9, o7, o8⟩, hu', hu3⟩ := id M2
  obtain ⟨⟨kbb, g2, g3, g4⟩, g5, g6, g7⟩ := id G
  have hh := ty_H_u hS
  obtain ⟨⟨s1, s2, s3⟩, ⟨e1, e2, e3⟩, S3⟩ := ST_c S2'
  refine rh_step s1 s2 s3 g2 e1 e2 e3 (by omega) (ts_let (d := d + 9) g5 s1 s2 s3 e2 e3 (ck_bl (d := d + 6) (kv := kv) C hh.2.2.2 g5 (by omega) (by omega) s3 (by rw [ha]; exact r33) hx (by omega) hu' hu3 o9 (fun hv => by have := bx _ hv; omega) (by rw [fr.1]; exact B0.1) (by omega) tv0 (by omega) (by omega) (by rw [g7]; exact ekv))) ?_
  rintro σ3 ⟨C3, K3, sc, mk, u3, ⟨b14, b9, b7, bB, b10⟩, ⟨r33c, r25c⟩, f8c, f11c⟩
  have M3 : MI S2 T2 σ σ3 ds E N key u := ⟨C3, ⟨GI_K G K3, KF_tr KK K3, b14.trans n14⟩, ⟨b9.trans o9, b7.trans o7, bB.trans o8⟩, hu', u3⟩
  refine ks_namev M3 (ST_K K3 S3) wa0 wa1 eka sc hx rfl mk (by omega) (by omega) fun S4 T4 σ4 y ν' M4 kp4 hy ey nl4 ni4 tg4 q33 q33b q25 q8 q11 qf S4' => ?_
  have hx4 := kp4 x hx
  refine ks_namev (x := x) (t := T2 x) M4 S4' wb0 wb1 ekb ⟨by rw [qf.1]; exact sc.1, by rw [qf.2.2.2.1]; exact sc.2.1, by rw [qf.2.2.2.2.1]; exact sc.2.2.1, by rw [qf.2.2.2.2.2]; exact sc.2.2.2⟩ hx4.1 hx4.2 tg4 (by omega) (by omega) fun S5 T5 σ5 z ν'' M5 kp5 hz ez nl5 ni5 tg5 w33 w33b w25 w8 w11 wf S5' => ?_
  have hy5 := kp5 y hy
  have ry : REN t1 (T5 y) := REN_tr rx ⟨ν', hy5.2.trans ey, ni4⟩
  have rz : REN t1 (T5 z) := REN_tr rx ⟨ν'', ez, ni5⟩
  have by5 : ∀ v, vin v (T5 y) → (v : Int) < mi_sF σ4 9 8 ∧ mi_sF σ3 9 8 ≤ (v : Int) := fun v hv => by
    rw [hy5.2] at hv
    refine ⟨(CI_vl M4.1 hy hv).2, ?_⟩
    rw [ey] at hv
    obtain ⟨w, hw, e⟩ := vin_sb _ hv
    have e' : ν' w = v := e
    rw [← e']
    exact nl4 w hw
  have bz5 : ∀ v, vin v (T5 z) → mi_sF σ4 9 8 ≤ (v : Int) := fun v hv => by
    rw [ez] at hv
    obtain ⟨w, hw, e⟩ := vin_sb _ hv
    have e' : ν'' w = v := e
    rw [← e']
    exact nl5 w hw
  have pzy := REN_pz ry
  have pzz := REN_pz rz
  refine ks_pr M5 S5' (by omega) (by omega) (by omega) (by omega) (by rw [w33b b (by omega), hb, show s0 + 3 = s0 + 1 + 1 + 1 by omega]; exact q33) (by rw [hc, show s0 + 4 = s0 + 1 + 1 + 1 + 1 by omega]; exact w33) hy5.1 hz (by omega) fun S6 T6 σ6 w M6 kp6 hw ew v33 v33b v25 v8 v11 vf S6' => ?_
  obtain ⟨C6, ⟨G6, KK6, n146⟩, ⟨o96, o76, o86⟩, hu6, hu36⟩ := id M6
  obtain ⟨⟨kbb6, g26, g36, g46⟩, g56, g66, g76⟩ := id G6
  obtain ⟨⟨s16, s26, s36⟩, ⟨e16, e26, e36⟩, S7⟩ := ST_c S6'
  have z6 : mi_sF σ6 44 3 = 1 := by rw [vf.1, wf.1, qf.1]; exact sc.1
  have e33 : mi_sA σ6 33 e = w := by rw [he, show s0 + 5 = s0 + 1 + 1 + 1 + 1 + 1 by omega]; exact v33
  refine rh_expr s16 s26 s36 g26 e16 e26 e36 (by omega) (te_let (d := d + 9) g56 (by omega) (by omega) s36 (by omega) (by omega)) (fun x σ' q => by rw [q.2]; rfl) ?_
  rintro x' σ7 ⟨rfl, rfl⟩
  rw [e33]
  have K7 : KF σ6 (mi_uA (mi_uF σ6 44 3 (mi_sF σ6 44 3 - 1)) 33 (s0 + 1 + 1 + 1 + 1 + 1 + 1) w) := KF_uA (KF_uF KF_rf (by decide)) (by decide)
  have M7 : MI S6 T6 σ (mi_uA (mi_uF σ6 44 3 (mi_sF σ6 44 3 - 1)) 33 (s0 + 1 + 1 + 1 + 1 + 1 + 1) w) ds E N key u := ⟨CI_s C6 ⟨⟨rfl, rfl⟩, rfl, rfl, rfl, rfl, rfl, rfl⟩, ⟨GI_K G6 K7, KF_tr KK6 K7, n146⟩, ⟨o96, o76, o86⟩, hu6, hu36⟩
  refine ks_end0 (x := w) M7 (ST_K K7 S7) (by omega) (by omega) ?_ (by rw [mi_AA, if_pos ⟨rfl, by omega⟩]) hw (by rw [ew]; exact fun v => tn_var) ?_ ?_ hn ?_ fun σ' KI' KF' f8' f11' r25' S8 => ?_
  · show mi_sF σ6 43 10 = 0
    rw [vf.2.1, wf.2.1, qf.2.1, b10, fr.2.1]; exact B0.2.1
  · rw [ew, pz_tn5]; omega
  · rw [ew, vin_tn]
    rintro (q | q | q)
    · have := (by5 _ q).2
      omega
    · have := bz5 _ q
      omega
    · exact q.elim
  · show mi_sF σ6 9 11 < _
    omega
  · rw [ew] at KI'
    have ei : s0 + 1 + 1 + 1 + 1 + 1 + 1 + 1 + 1 = s0 + 8 := by omega
    rw [ei] at S8 ⊢
    refine K σ' (T5 y) (T5 z) ry rz (fun v hv hw => ?_) KI' KF' ?_ ?_ (fun j => ?_) S8
    · have := (by5 v hv).1
      have := bz5 v hw
      omega
    · have : mi_sF σ' 9 8 = mi_sF σ6 9 8 := f8'
      omega
    · have : mi_sF σ' 9 11 ≤ mi_sF σ6 9 11 + 4 := f11'
      omega
    · have : mi_sA σ' 25 j = mi_sA σ6 25 j := r25' j
      rw [this, v25 j, w25 j, q25 j, r25c j, r25b j, r25 j]
      split <;> omega
end KS
