/-! ===== def w : form = e ===== -/
/-- two trees that are the same but for their variables: the one's variables are free -/
theorem REN_un {t1 x y : tr} {ν μ : Nat → Nat} {tag : Int → Int} (ex : x = sb (fun v => .var (ν v)) t1) (ey : y = sb (fun v => .var (μ v)) t1) (ni : ∀ v w, vin v t1 → vin w t1 → ν v = ν w → v = w) (h3 : ∀ v, vin v t1 → tag (ν v : Int) = 3) : ∃ θ, fx tag θ ∧ sb θ x = y := by
  classical
  refine ⟨fun w => if h : ∃ v, vin v t1 ∧ ν v = w then .var (μ h.choose) else .var w, fun w hw => ?_, ?_⟩
  · refine dif_neg ?_
    rintro ⟨v, hv, e⟩
    have := h3 v hv
    rw [e, hw] at this
    exact absurd this (by decide)
  · rw [ex, ey, sb_sb]
    refine sb_ext _ fun v hv => ?_
    have hh : ∃ v', vin v' t1 ∧ ν v' = ν v := ⟨v, hv, rfl⟩
    show (if h : ∃ v', vin v' t1 ∧ ν v' = ν v then (.var (μ h.choose) : tr) else .var (ν v)) = _
    rw [dif_pos hh, ni _ _ hh.choose_spec.1 hv hh.choose_spec.2]
section KS
variable {X : mi_X} {d : Nat} {h0 : mi_H} {Q : mi_Z → Prop} {σ0 σ : mi_Sg} {ds : List (Int64 × tr)} {E : Int → Int64} {N s0 p : Int} {key : Int64} {l : List (Int × Int × Int)} {Sx : Int → Prop} {T : Int → tr} {u : Int}
theorem ks_w {e : tr} {tk st : Int} {i1 : Nat} {k1 : Int64} {t1 ta tb : tr} (I : KI σ ds E N) (S : ST σ s0 ((10, p, 0) :: (stf 0 0 (p + 3) e ++ (11, p + 3, 0) :: (21, tk, 0) :: (12, st, p) :: l))) (hst : st = s0 + ((stf 0 0 (p + 3) e).length + 2)) (p0 : 0 ≤ p) (p1 : p + 3 + (tkf 0 e).length ≤ N) (p2 : p + 1 < N) (ek : E (p + 1) = key) (t0 : 0 ≤ tk) (t1' : tk < N) (ek2 : E tk = k1) (hi1 : ds[i1]? = some (k1, t1)) (h5 : t1 = tn 5 ta tb tr_0) (hre : REN t1 e) (hd : ∀ (i : Nat) (q : Int64 × tr), ds[i]? = some q → q.1 ≠ key) (hd1 : ∀ (j : Nat) (q : Int64 × tr), j < i1 → ds[j]? = some q → q.1 ≠ k1) (hn : ds.length < 24) (ky : kyp E 0 (p + 3) e) (hw : wt e) (h6 : ∀ v, vin v e → v < 6) (hp : pz e ≤ 120) (hu : mi_sF σ 9 8 + 1 + 2 * pz e ≤ 512) (hr : mi_sF σ 9 11 < 99990000)
    (K : ∀ σ' t, REN e t → KI σ' (ds ++ [(key, t)]) E N → KF σ σ' → mi_sF σ' 9 8 ≤ mi_sF σ 9 8 + (1 + 2 * pz e) → mi_sF σ' 9 11 ≤ mi_sF σ 9 11 + 20 → ST σ' (s0 + ((stf 0 0 (p + 3) e).length + 4)) l → RH X d h0 Q (s0 + ((stf 0 0 (p + 3) e).length + 4)) σ') : RH X d h0 Q s0 σ := by
  have z1 := S.1.1
  have pz0 := pz_wt hw
  have pz1 := REN_pz hre
  refine ks_begin I S p0 p2 ek hd hn (by omega) fun Sx T σ1 u M B0 u1 f8 f11 r25 S1 => ?_
  have u0 : 0 < u := (M.1.1.2 u M.2.2.2.1).1.1
  refine ks_form M B0 S1 (by omega) (by omega) ky hw h6 hp (by omega) fun S2 T2 σ2 nf M2 kp2 hnf ren mk e10 e44 r33 r25b f8b f11b S2' => ?_
  have u2 : u < mi_sF σ2 9 8 := (M2.1.1.2 u M2.2.2.2.1).1.2
  refine ks_name M2 S2' t0 t1' ek2 hi1 hd1 (hd i1 _ hi1) hn (by omega) (by omega) (fun j x y => by omega) (by omega) (by omega) fun S3 T3 σ3 x ν M3 kp hx ex nl ni q33 q33b q25 q8 q11 fr S3' => ?_
  refine RH_S fun h hS => ?_
  obtain ⟨C, ⟨G, KK, n14⟩, ⟨o9, o7, o8⟩, hu', hu3⟩ := id M3
  obtain ⟨⟨kbb, g2, g3, g4⟩, g5, g6, g7⟩ := id G
  have hh := ty_H_u hS
  obtain ⟨⟨w1, w2, w3⟩, ⟨i1', i2, i3⟩, S4⟩ := ST_c S3'
  have gu := C.1.2 u hu'
  have tu := (gu.2.2.2.2.1 (Or.inl hu3)).1
  have hnf3 := kp nf hnf
  have gn := C.1.2 nf hnf3.1
  have gx := C.1.2 x hx
  obtain ⟨μ, eμ, iμ⟩ := ren
  have ren3 : REN e (T3 nf) := ⟨μ, hnf3.2.trans eμ, iμ⟩
  have hpn : pz (T3 nf) ≤ 120 := by rw [REN_pz ren3]; exact hp
  have e33 : mi_sA σ3 33 st = x := by rw [hst, show s0 + (↑(stf 0 0 (p + 3) e).length + 2) = s0 + 1 + ↑(stf 0 0 (p + 3) e).length + 1 by omega]; exact q33
  have e10' : mi_sF σ3 43 10 = nf := fr.2.1.trans e10
  have mk3 : ∀ v, vin v (T3 nf) → mi_sA σ3 10 (v : Int) = 4 := fun v hv => by
    rw [hnf3.2] at hv
    have z := CI_vl M2.1 hnf hv
    rw [q8.2.2 _ z.1 z.2]
    exact mk v hv
  obtain ⟨μ', eμ', iμ'⟩ := REN_tr hre ren3
  have un := REN_un (tag := mi_sA σ3 10) ex eμ' ni (fun v hv => (nl v hv).2)
  have hF : ∀ v, T3 x ≠ .var v := fun v => by
    rw [ex, h5, sb_tn]
    exact tn_var
  have hno : ¬ vin u.toNat (T3 x) := fun hv => by
    rw [ex] at hv
    obtain ⟨w, hw, e⟩ := vin_sb _ hv
    have e' : ν w = u.toNat := e
    have := (nl w hw).1
    omega
  refine rh_step w1 w2 w3 g2 i1' i2 i3 (by omega) (ts_end (d := d + 9) g5 w1 w2 w3 i2 i3 (ke_1 (d := d + 6) (F := T3 x) (t := T3 nf) (key := key) C hh.2.2.2 g5 (by omega) (by omega) w3 g2 g6 hh.2.1 (by rw [e33]; exact gx.1.1) (by rw [e33]; exact gx.1.2) (by rw [e33, gx.2.1]; exact hx) (by rw [e33, gx.2.1]) (by rw [e10']; exact gn.1.1) (by rw [e10']; exact gn.1.2) (by rw [e10', gn.2.1]; exact hnf3.1) (by rw [e10', gn.2.1]) mk3 hpn (by rw [o9]; exact hu') (by rw [o9]; exact hu3) (Or.inr ⟨by rw [o9]; exact hno, hF, un⟩) (by omega) n14 hn o8)) ?_
  rintro σ' ⟨hC, KF', n', r25c, f8c, f11c, z44⟩
  have ei : s0 + 1 + ↑(stf 0 0 (p + 3) e).length + 1 + 1 + 1 = s0 + ((stf 0 0 (p + 3) e).length + 4 : Int) := by omega
  rw [ei] at S4 ⊢
  exact K σ' (T3 nf) ren3 ⟨hC, GI_K G KF', n', z44⟩ (KF_tr KK KF') (by omega) (by omega) (ST_K KF' S4)
end KS
