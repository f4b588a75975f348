/-! ===== a definition begins; a name in it ===== -/
def KI (σ : mi_Sg) (ds : List (Int64 × tr)) (E : Int → Int64) (N : Int) : Prop := (∃ Sx T, CI Sx T σ ds) ∧ GI σ E N ∧ mi_sF σ 17 14 = ds.length ∧ mi_sF σ 44 3 = 0
/-- inside a definition: u is its own unknown -/
def MI (Sx : Int → Prop) (T : Int → tr) (σ0 σ : mi_Sg) (ds : List (Int64 × tr)) (E : Int → Int64) (N : Int) (key : Int64) (u : Int) : Prop := CI Sx T σ ds ∧ (GI σ E N ∧ KF σ0 σ ∧ mi_sF σ 17 14 = ds.length) ∧ (mi_sF σ 43 9 = u ∧ mi_sF σ 43 7 = ds.length ∧ mi_sB σ 43 8 = key) ∧ Sx u ∧ mi_sA σ 10 u = 3
section KS
variable {X : mi_X} {d : Nat} {h0 : mi_H} {Q : mi_Z → Prop} {σ0 σ : mi_Sg} {ds : List (Int64 × tr)} {E : Int → Int64} {N s0 p : Int} {key : Int64} {l : List (Int × Int × Int)} {Sx : Int → Prop} {T : Int → tr} {u : Int}
theorem ks_begin (I : KI σ ds E N) (S : ST σ s0 ((10, p, 0) :: l)) (p0 : 0 ≤ p) (p1 : p + 1 < N) (hk : E (p + 1) = key) (hd : ∀ (i : Nat) (q : Int64 × tr), ds[i]? = some q → q.1 ≠ key) (hn : ds.length < 24) (hu : mi_sF σ 9 8 < 512)
    (K : ∀ Sx T σ1 u, MI Sx T σ σ1 ds E N key u → (mi_sF σ1 44 3 = 0 ∧ mi_sF σ1 43 10 = 0 ∧ mi_sF σ1 48 7 = 0 ∧ mi_sF σ1 48 9 = 0 ∧ ∀ j, 0 ≤ j → j < 26 → mi_sA σ1 49 j = 0) → u < mi_sF σ1 9 8 → mi_sF σ1 9 8 = mi_sF σ 9 8 + 1 → mi_sF σ1 9 11 = mi_sF σ 9 11 → (∀ j, mi_sA σ1 25 j = mi_sA σ 25 j) → ST σ1 (s0 + 1) l → RH X d h0 Q (s0 + 1) σ1) : RH X d h0 Q s0 σ := by
  refine RH_S fun h hS => ?_
  obtain ⟨⟨Sx, T, C⟩, G, n14, z44⟩ := I
  obtain ⟨⟨kbb, g2, g3, g4⟩, g5, g6, g7⟩ := id G
  have hf := ty_H_f hS
  have h00 := (ty_H_u hS).2.2.2
  obtain ⟨⟨s1, s2, s3⟩, ⟨e1, e2, e3⟩, Sr⟩ := ST_c S
  have c6 := C.2.2.2.2.2
  have ek : mi_sE σ 8 (p + 1) = key := by rw [g7]; exact hk
  refine rh_step s1 s2 s3 g2 e1 e2 e3 (by omega) (ts_begin (d := d + 9) g5 s1 s2 s3 e2 (ck_begin (d := d + 7) p0 (by omega) (by omega) (by omega) (by omega) (fun j j0 j1 => ?_) hu)) ?_
  · have hl : j.toNat < ds.length := by omega
    have z := c6 j.toNat _ (List.getElem?_eq_getElem hl)
    have hj : ((j.toNat : Nat) : Int) = j := by omega
    rw [hj] at z
    rw [z.1, ek]
    exact hd j.toNat _ (List.getElem?_eq_getElem hl)
  rintro σ1 ⟨σ2, F2, r49, v7, v9, rfl⟩
  have K0 : KF σ (mi_uF (mi_uF (mi_uF (mi_uF σ 44 3 0) 43 7 (-1)) 43 9 0) 43 10 0) := KF_uF (KF_uF (KF_uF (KF_uF KF_rf (by decide)) (by decide)) (by decide)) (by decide)
  have K2 : KF σ σ2 := KF_tr K0 (KF_sg F2 (by decide) (by decide))
  have C1 : CI Sx T (mi_uF (mi_uF (mi_uF (mi_uF σ 44 3 0) 43 7 (-1)) 43 9 0) 43 10 0) ds := CI_s C ⟨⟨rfl, rfl⟩, rfl, rfl, rfl, rfl, rfl, rfl⟩
  have C2 : CI Sx T σ2 ds := CI_s C1 (KS_sg F2 (by decide) (by decide) (by decide))
  have e8 : mi_sF σ2 9 8 = mi_sF σ 9 8 := F2.2.2 9 8 (by decide)
  have e12 : mi_sA σ2 12 0 = 0 := by
    have : mi_sA σ2 12 0 = mi_sA σ 12 0 := F2.2.1 12 0 (by decide)
    rw [this]; exact h00
  have e14 : mi_sF σ2 17 14 = mi_sF σ 17 14 := F2.2.2 17 14 (by decide)
  have C3 : CI Sx T (mi_uF (mi_uB σ2 43 8 (mi_sE σ2 8 (p + 1))) 43 7 (mi_sF σ2 17 14)) ds := CI_s C2 ⟨⟨rfl, rfl⟩, rfl, rfl, rfl, rfl, rfl, rfl⟩
  have C4 := CI_mk (g := 3) (a := 0) (b := 0) C3 e12 (by show 13 ≤ mi_sF σ2 9 8; omega) (Or.inl ⟨rfl, rfl, rfl, rfl⟩)
  have X4 := ty_mk_X (σ := mi_uF (mi_uB σ2 43 8 (mi_sE σ2 8 (p + 1))) 43 7 (mi_sF σ2 17 14)) (g := 3) (a := 0) (b := 0) (c := 0) (by show 0 < mi_sF σ2 9 8; omega)
  have F4 := ty_mk_F (σ := mi_uF (mi_uB σ2 43 8 (mi_sE σ2 8 (p + 1))) 43 7 (mi_sF σ2 17 14)) (g := 3) (a := 0) (b := 0) (c := 0)
  have K4 : KF σ (mi_uF (ty_mk (mi_uF (mi_uB σ2 43 8 (mi_sE σ2 8 (p + 1))) 43 7 (mi_sF σ2 17 14)) 3 0 0 0) 43 9 (mi_sF σ2 9 8)) := KF_uF (KF_tr (KF_uF (KF_uB K2) (by decide)) (KF_sx F4 X4.1 (by show 13 ≤ mi_sF σ2 9 8; omega) (by decide) (by decide))) (by decide)
  have f9 : ∀ k j : Nat, (k, j) ≠ (9, 8) → (k, j) ≠ (43, 9) → mi_sF (mi_uF (ty_mk (mi_uF (mi_uB σ2 43 8 (mi_sE σ2 8 (p + 1))) 43 7 (mi_sF σ2 17 14)) 3 0 0 0) 43 9 (mi_sF σ2 9 8)) k j = mi_sF (mi_uF (mi_uB σ2 43 8 (mi_sE σ2 8 (p + 1))) 43 7 (mi_sF σ2 17 14)) k j := fun k j a b => by
    rw [mi_FF, if_neg (fun q => b (by rw [q.1, q.2]))]
    exact F4.2.2 k j (by simpa using a)
  refine K _ _ _ (mi_sF σ2 9 8) ⟨CI_s C4 ⟨⟨rfl, rfl⟩, rfl, rfl, rfl, rfl, rfl, rfl⟩, ⟨GI_K G K4, K4, ?_⟩, ⟨rfl, ?_, ?_⟩, Or.inr rfl, ?_⟩ ⟨?_, ?_, ?_, ?_, fun j j0 j1 => ?_⟩ ?_ ?_ ?_ (fun j => ?_) (ST_K K4 Sr)
  · rw [f9 17 14 (by decide) (by decide)]
    show mi_sF σ2 17 14 = _
    omega
  · rw [f9 43 7 (by decide) (by decide)]
    rw [mi_FF, if_pos ⟨rfl, rfl⟩]; omega
  · have : mi_sB (mi_uF (ty_mk (mi_uF (mi_uB σ2 43 8 (mi_sE σ2 8 (p + 1))) 43 7 (mi_sF σ2 17 14)) 3 0 0 0) 43 9 (mi_sF σ2 9 8)) 43 8 = mi_sB (mi_uF (mi_uB σ2 43 8 (mi_sE σ2 8 (p + 1))) 43 7 (mi_sF σ2 17 14)) 43 8 := sg_B F4 43 8
    rw [this]
    rw [mi_BF, mi_BB, if_pos ⟨rfl, rfl⟩, K2.2.2.1 8 _ (by decide) (by decide), ek]
  · exact X4.2.1
  · rw [f9 44 3 (by decide) (by decide)]
    show mi_sF σ2 44 3 = 0
    exact F2.2.2 44 3 (by decide)
  · rw [f9 43 10 (by decide) (by decide)]
    show mi_sF σ2 43 10 = 0
    exact F2.2.2 43 10 (by decide)
  · rw [f9 48 7 (by decide) (by decide)]
    exact v7
  · rw [f9 48 9 (by decide) (by decide)]
    exact v9
  · have : mi_sA (mi_uF (ty_mk (mi_uF (mi_uB σ2 43 8 (mi_sE σ2 8 (p + 1))) 43 7 (mi_sF σ2 17 14)) 3 0 0 0) 43 9 (mi_sF σ2 9 8)) 49 j = mi_sA (mi_uF (mi_uB σ2 43 8 (mi_sE σ2 8 (p + 1))) 43 7 (mi_sF σ2 17 14)) 49 j := F4.2.1 49 j (by decide)
    rw [this]
    exact r49 j j0 j1
  · show mi_sF σ2 9 8 < mi_sF σ2 9 8 + 1
    omega
  · show mi_sF σ2 9 8 + 1 = _
    omega
  · show mi_sF σ2 9 11 = _
    exact F2.2.2 9 11 (by decide)
  · have : mi_sA (mi_uF (ty_mk (mi_uF (mi_uB σ2 43 8 (mi_sE σ2 8 (p + 1))) 43 7 (mi_sF σ2 17 14)) 3 0 0 0) 43 9 (mi_sF σ2 9 8)) 25 j = mi_sA (mi_uF (mi_uB σ2 43 8 (mi_sE σ2 8 (p + 1))) 43 7 (mi_sF σ2 17 14)) 25 j := F4.2.1 25 j (by decide)
    rw [this]
    exact F2.2.1 25 j (by decide)
/-- the name of a definition ahead: a copy of its type -/
theorem ks_name {tk b : Int} {i : Nat} {k' : Int64} {t : tr} (M : MI Sx T σ0 σ ds E N key u) (S : ST σ s0 ((21, tk, b) :: l)) (t0 : 0 ≤ tk) (t1 : tk < N) (ek : E tk = k') (hi : ds[i]? = some (k', t)) (hd : ∀ (j : Nat) (q : Int64 × tr), j < i → ds[j]? = some q → q.1 ≠ k') (hko : k' ≠ key) (hn : ds.length < 24) (z0 : 0 ≤ mi_sF σ 44 3) (z1 : mi_sF σ 44 3 ≤ 300) (hz : ∀ j, 0 ≤ j → j < mi_sF σ 44 3 → mi_sE σ 45 j ≠ k') (hroom : mi_sF σ 9 8 + pz t ≤ 512) (hr : mi_sF σ 9 11 < 99999000)
    (K : ∀ Sx' T' σ' x (ν : Nat → Nat), MI Sx' T' σ0 σ' ds E N key u → (∀ n, Sx n → Sx' n ∧ T' n = T n) → Sx' x → T' x = sb (fun v => .var (ν v)) t → (∀ v, vin v t → mi_sF σ 9 8 ≤ (ν v : Int) ∧ mi_sA σ' 10 (ν v : Int) = 3) → (∀ v w, vin v t → vin w t → ν v = ν w → v = w) → mi_sA σ' 33 s0 = x → (∀ j, j ≠ s0 → mi_sA σ' 33 j = mi_sA σ 33 j) → (∀ j, mi_sA σ' 25 j = if j = ds.length * 24 + i then mi_sA σ 25 j + 1 else mi_sA σ 25 j) → (mi_sF σ 9 8 ≤ mi_sF σ' 9 8 ∧ mi_sF σ' 9 8 ≤ mi_sF σ 9 8 + pz t ∧ ∀ n, 0 < n → n < mi_sF σ 9 8 → mi_sA σ' 10 n = mi_sA σ 10 n) → mi_sF σ' 9 11 = mi_sF σ 9 11 + 1 → (mi_sF σ' 44 3 = mi_sF σ 44 3 ∧ mi_sF σ' 43 10 = mi_sF σ 43 10 ∧ mi_sF σ' 48 7 = mi_sF σ 48 7 ∧ (∀ j, mi_sE σ' 45 j = mi_sE σ 45 j) ∧ (∀ j, mi_sA σ' 46 j = mi_sA σ 46 j) ∧ ∀ j, mi_sA σ' 47 j = mi_sA σ 47 j) → ST σ' (s0 + 1) l → RH X d h0 Q (s0 + 1) σ') : RH X d h0 Q s0 σ := by
  refine RH_S fun h hS => ?_
  obtain ⟨C, ⟨G, KK, n14⟩, ⟨o9, o7, o8⟩, hu, hu3⟩ := M
  obtain ⟨⟨kbb, g2, g3, g4⟩, g5, g6, g7⟩ := id G
  have hf := ty_H_f hS
  have h00 := (ty_H_u hS).2.2.2
  obtain ⟨⟨s1, s2, s3⟩, ⟨e1, e2, e3⟩, Sr⟩ := ST_c S
  have ek' : mi_sE σ 8 tk = k' := by rw [g7]; exact ek
  have il : i < ds.length := (List.getElem?_eq_some_iff.mp hi).1
  obtain ⟨d1, d2, d3, d4, d5, d6⟩ := C.2.2.2.2.2 i _ hi
  have C1 : CI Sx T (mi_uA σ 25 (mi_sF σ 43 7 * 24 + i) (mi_sA σ 25 (mi_sF σ 43 7 * 24 + i) + 1)) ds := CI_s C ⟨⟨rfl, rfl⟩, rfl, rfl, rfl, rfl, rfl, rfl⟩
  refine rh_expr s1 s2 s3 g2 e1 e2 e3 (P := fun x σ' => ∃ h', ty_H h' σ' ∧ cp_Q 0 (mi_sA σ 12 (mi_sA σ 24 (i : Int))) T (mi_uA σ 25 (mi_sF σ 43 7 * 24 + i) (mi_sA σ 25 (mi_sF σ 43 7 * 24 + i) + 1)) x σ') (by omega) (te_name (d := d + 10) (ck_name_def (d := d + 7) (i := (i : Int)) t0 (by omega) (by omega) z0 z1 (fun j a b => by rw [ek']; exact hz j a b) (by omega) (by omega) (by omega) (by rw [ek']; exact d1) (fun j j0 j1 => ?_) (by omega) (by omega) (by rw [ek', o8]; exact hko) (ty_Ci_s (ty_copy (d := d + 6) (Sx := Sx) (T := T) C1.2.1 (by show mi_sF σ 9 11 < _; omega) C1.1 d2.1 d2.2 d3 (by rw [show T (mi_sA (mi_uA σ 25 (mi_sF σ 43 7 * 24 + i) (mi_sA σ 25 (mi_sF σ 43 7 * 24 + i) + 1)) 12 (mi_sA (mi_uA σ 25 (mi_sF σ 43 7 * 24 + i) (mi_sA σ 25 (mi_sF σ 43 7 * 24 + i) + 1)) 24 (i : Int))) = t from d4]; exact hroom) (Or.inl rfl) ⟨by show 0 ≤ mi_sF σ 9 9; omega, by show mi_sF σ 9 9 ≤ mi_sF σ 9 8; omega⟩ (fun n hn q => by show mi_sF σ 9 9 ≤ n; rw [g6]; exact CI_lo C n hn (Or.inl q))) (fun x σ' h' S' q => ⟨h', S', q⟩)))) (fun x σ' q => ?_) ?_
  · have hl : j.toNat < ds.length := by omega
    have z := C.2.2.2.2.2 j.toNat _ (List.getElem?_eq_getElem hl)
    have hj : ((j.toNat : Nat) : Int) = j := by omega
    rw [hj] at z
    rw [z.1, ek']
    exact hd j.toNat _ (by omega) (List.getElem?_eq_getElem hl)
  · obtain ⟨h', S', S2, T2, ν, X2, F2, -⟩ := q
    exact F2.2.2 26 7 (by decide)
  rintro x σ' ⟨h', S', q⟩
  have q' := q
  obtain ⟨S2, T2, ν', X2, F2, fr, Z2, eT, f8, -⟩ := q'
  have d4' : T (mi_sA σ 12 (mi_sA σ 24 (i : Int))) = t := d4
  obtain ⟨Sx', T', ν, C2, kp, hx, ex, n1, n2⟩ := CI_cp C1 (by show 13 ≤ mi_sF σ 9 8; omega) (by show 13 ≤ mi_sF σ 9 9; omega) d3 q
  rw [d4'] at ex n1 n2 f8
  have tg : ∀ v, vin v t → mi_sA (mi_uA σ 25 (mi_sF σ 43 7 * 24 + i) (mi_sA σ 25 (mi_sF σ 43 7 * 24 + i) + 1)) 10 (v : Int) = 4 := d6
  have K2 : KF σ σ' := KF_tr (KF_uA KF_rf (by decide)) (KF_sx F2 X2 (by show 13 ≤ mi_sF σ 9 8; omega) (by decide) (by decide))
  have K3 : KF σ (mi_uA σ' 33 s0 x) := KF_uA K2 (by decide)
  have gu := C.1.2 _ hu
  refine K Sx' T' (mi_uA σ' 33 s0 x) x (fun v => (ν (v : Int)).toNat) ⟨CI_s C2 ⟨⟨rfl, rfl⟩, rfl, rfl, rfl, rfl, rfl, rfl⟩, ⟨GI_K G K3, KF_tr KK K3, ?_⟩, ⟨?_, ?_, ?_⟩, (kp u hu).1, ?_⟩ kp hx ?_ (fun v hv => ?_) (fun v w hv hw e => ?_) ?_ (fun j hj => ?_) (fun j => ?_) ⟨X2.1, f8, fun n a b => (X2.2.1 n a b).1⟩ fr ⟨F2.2.2 44 3 (by decide), F2.2.2 43 10 (by decide), F2.2.2 48 7 (by decide), fun j => ?_, fun j => F2.2.1 46 j (by decide), fun j => F2.2.1 47 j (by decide)⟩ (ST_K K3 Sr)
  · exact (F2.2.2 17 14 (by decide)).trans n14
  · exact (F2.2.2 43 9 (by decide)).trans o9
  · exact (F2.2.2 43 7 (by decide)).trans o7
  · exact (sg_B F2 43 8).trans o8
  · have : mi_sA σ' 10 u = mi_sA σ 10 u := (X2.2.1 u gu.1.1 gu.1.2).1
    show mi_sA σ' 10 u = 3
    rw [this]; exact hu3
  · rw [ex]
    refine sb_ext _ fun v hv => ?_
    unfold cp_t
    rw [if_pos ⟨tg v hv, rfl⟩]
  · obtain ⟨this, t3⟩ := n1 rfl v hv (tg v hv)
    have e8 : mi_sF (mi_uA σ 25 (mi_sF σ 43 7 * 24 + i) (mi_sA σ 25 (mi_sF σ 43 7 * 24 + i) + 1)) 9 8 = mi_sF σ 9 8 := rfl
    rw [e8] at this
    refine ⟨by omega, ?_⟩
    show mi_sA σ' 10 (((ν (v : Int)).toNat : Nat) : Int) = 3
    rw [show (((ν (v : Int)).toNat : Nat) : Int) = ν (v : Int) by omega]
    exact t3
  · have a := (n1 rfl v hv (tg v hv)).1
    have b := (n1 rfl w hw (tg w hw)).1
    have e8 : mi_sF (mi_uA σ 25 (mi_sF σ 43 7 * 24 + i) (mi_sA σ 25 (mi_sF σ 43 7 * 24 + i) + 1)) 9 8 = mi_sF σ 9 8 := rfl
    rw [e8] at a b
    exact n2 rfl v w hv hw (tg v hv) (tg w hw) (by omega)
  · rw [mi_AA, if_pos ⟨rfl, rfl⟩]
  · rw [mi_AA, if_neg (fun q => hj q.2)]
    exact F2.2.1 33 j (by decide)
  · rw [mi_AA, if_neg (fun q => absurd q.1 (by decide)), F2.2.1 25 j (by decide), mi_AA, o7]
    by_cases e : j = (ds.length : Int) * 24 + i
    · rw [if_pos ⟨rfl, e⟩, if_pos e, e]
    · rw [if_neg (fun q => e q.2), if_neg e]
  · show mi_sE σ' 45 j = _
    rw [sg_E F2 45]
    rfl
end KS
