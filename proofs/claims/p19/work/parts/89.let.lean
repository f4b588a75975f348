/-! ===== def u = let v = d0 in (v, v) ===== -/
section KS
variable {X : mi_X} {d : Nat} {h0 : mi_H} {Q : mi_Z → Prop} {σ0 σ : mi_Sg} {ds : List (Int64 × tr)} {E : Int → Int64} {N s0 p : Int} {key : Int64} {l : List (Int × Int × Int)} {Sx : Int → Prop} {T : Int → tr} {u : Int}
/-- what bindLet leaves -/
def BLP (Sx : Int → Prop) (T : Int → tr) (σ : mi_Sg) (ds : List (Int64 × tr)) (u x : Int) (kv : Int64) (σ' : mi_Sg) : Prop := CI Sx T σ' ds ∧ KF σ σ' ∧ (mi_sF σ' 44 3 = 1 ∧ mi_sE σ' 45 0 = kv ∧ mi_sA σ' 46 0 = x ∧ mi_sA σ' 47 0 = 1) ∧ (∀ v, vin v (T x) → mi_sA σ' 10 (v : Int) = 4) ∧ mi_sA σ' 10 u = 3 ∧ (mi_sF σ' 17 14 = mi_sF σ 17 14 ∧ mi_sF σ' 43 9 = mi_sF σ 43 9 ∧ mi_sF σ' 43 7 = mi_sF σ 43 7 ∧ mi_sB σ' 43 8 = mi_sB σ 43 8 ∧ mi_sF σ' 43 10 = mi_sF σ 43 10) ∧ ((∀ j, mi_sA σ' 33 j = mi_sA σ 33 j) ∧ ∀ j, mi_sA σ' 25 j = mi_sA σ 25 j) ∧ mi_sF σ' 9 8 = mi_sF σ 9 8 ∧ mi_sF σ' 9 11 = mi_sF σ 9 11 + 2
theorem bl_post {σ3 : mi_Sg} {x : Int} {kv : Int64} {nm : Int} (C3 : CI Sx T σ3 ds) (K3 : KF σ σ3) (f44 : mi_sF σ3 44 3 = 0) (ek : mi_sE σ3 8 nm = kv) (mk : ∀ v, vin v (T x) → mi_sA σ3 10 (v : Int) = 4) (hu3 : mi_sA σ3 10 u = 3) (fs : mi_sF σ3 17 14 = mi_sF σ 17 14 ∧ mi_sF σ3 43 9 = mi_sF σ 43 9 ∧ mi_sF σ3 43 7 = mi_sF σ 43 7 ∧ mi_sB σ3 43 8 = mi_sB σ 43 8 ∧ mi_sF σ3 43 10 = mi_sF σ 43 10) (r33 : ∀ j, mi_sA σ3 33 j = mi_sA σ 33 j) (r25 : ∀ j, mi_sA σ3 25 j = mi_sA σ 25 j) (f8 : mi_sF σ3 9 8 = mi_sF σ 9 8) (f11 : mi_sF σ3 9 11 = mi_sF σ 9 11 + 2) : BLP Sx T σ ds u x kv (mi_uF (mi_uA (mi_uA (mi_uE σ3 45 (mi_sF σ3 44 3) (mi_sE σ3 8 nm)) 46 (mi_sF σ3 44 3) x) 47 (mi_sF σ3 44 3) 1) 44 3 (mi_sF σ3 44 3 + 1)) := by
  rw [f44]
  refine ⟨CI_s C3 ⟨⟨rfl, rfl⟩, rfl, rfl, rfl, rfl, rfl, rfl⟩, KF_uF (KF_uA (KF_uA (KF_uE K3 (Or.inr rfl)) (by decide)) (by decide)) (by decide), ⟨?_, ?_, ?_, ?_⟩, mk, hu3, fs, ⟨r33, r25⟩, f8, f11⟩
  · rw [mi_FF, if_pos ⟨rfl, rfl⟩]; rfl
  · rw [mi_EF, mi_EA, mi_EA, mi_EE, if_pos ⟨rfl, rfl⟩]; exact ek
  · rw [mi_AF, mi_AA, if_neg (fun q => absurd q.1 (by decide)), mi_AA, if_pos ⟨rfl, rfl⟩]
  · rw [mi_AF, mi_AA, if_pos ⟨rfl, rfl⟩]
theorem ck_bl {a x nm : Int} {kv : Int64} (C : CI Sx T σ ds) (h00 : mi_sA σ 12 0 = 0) (hs : mi_sF σ 43 6 = 26) (a0 : 0 ≤ a) (a1 : a < mi_sF σ 26 7) (a2 : mi_sF σ 26 7 ≤ 1024) (e33 : mi_sA σ 33 a = x) (hx : Sx x) (hp : pz (T x) ≤ 120) (hu : Sx u) (hu3 : mi_sA σ 10 u = 3) (o9 : mi_sF σ 43 9 = u) (hno : ¬ vin u.toNat (T x)) (z44 : mi_sF σ 44 3 = 0) (hr : mi_sF σ 9 11 < 99999000) (n0 : 0 ≤ nm) (n1 : nm < mi_sF σ 3 7) (n2 : mi_sF σ 3 7 ≤ 301) (ek : mi_sE σ 8 nm = kv) : ty_Cv X (d + 4) mi_M18 [(0, .ref 43), (1, .int (Int32.ofInt a)), (2, .int (Int32.ofInt nm))] σ (BLP Sx T σ ds u x kv) := by
  have Z := C.2.1
  have gx := C.1.2 x hx
  have gu := C.1.2 u hu
  have Hp : ty_T σ (fun n => Sx n ∧ pz (T n) ≤ 120) T := ty_T_sub C.1 (fun e => pz e ≤ 120) fun n k hn hw k0 k1 hk => by
    have z := pz_node C.1 hn
    have z0 := pz_0 (T (ty_K' σ n 0))
    have z1 := pz_0 (T (ty_K' σ n 1))
    have z2 := pz_0 (T (ty_K' σ n 2))
    obtain rfl | rfl | rfl : k = 0 ∨ k = 1 ∨ k = 2 := by omega
    · omega
    · omega
    · omega
  refine ck_bindLet (R := BLP Sx T σ ds u x kv) hs a0 a1 a2 ?_
  rw [e33]
  refine ty_Ci_s (ty_partsOf (d := d + 1) Z (by omega) Hp gx.1.1 gx.1.2 (by rw [gx.2.1]; exact ⟨hx, hp⟩) (fun n hn => by have := hn.2; omega)) ?_
  rintro y σ1 h1 S1 ⟨ey, M⟩
  have C1 := CI_M C M
  have f8 : mi_sF σ1 9 8 = mi_sF σ 9 8 := M.1.2.2 9 8 (by decide)
  have g12 : mi_sA σ1 12 = mi_sA σ 12 := sg_Af_Ak M.1 (by decide)
  have g10 : mi_sA σ1 10 = mi_sA σ 10 := sg_Af_Ak M.1 (by decide)
  have gu1 := C1.1.2 u hu
  have f9 : mi_sF σ1 43 9 = u := (M.1.2.2 43 9 (by decide)).trans o9
  refine ⟨⟨by rw [ey]; exact pz_0 _, by rw [ey, gx.2.1]; exact hp⟩, (M.1.2.2 44 3 (by decide)).trans z44, ?_⟩
  rw [f9]
  obtain ⟨G, B⟩ := ty_b_G C1.2.1 (by have := M.2.1; omega)
  have t0 : mi_sA (ty_b σ1) 10 0 = 0 := C1.2.1.2.2.2.2
  have Zb : ty_Z (ty_b σ1) := ga_S_Z B G.2 (by have := G.1; omega) t0
  have Cb : CI Sx T (ty_b σ1) ds := CI_z C1 Zb rfl rfl rfl rfl rfl rfl
  have gub := Cb.1.2 u hu
  have hu3b : mi_sA (ty_b σ1) 10 u = 3 := by
    show mi_sA σ1 10 u = 3
    rw [g10]; exact hu3
  have ku : ∀ k, 0 ≤ k → k < 3 → ty_K' (ty_b σ1) u k = 0 := (gub.2.2.2.2.1 (Or.inl hu3b)).2
  refine ty_Ci_s (ty_gather (d := d + 2) (Sx := fun n => n = u) G B (by omega) (by show u < mi_sF σ1 9 8; exact gu1.1.2) (fun n k e _ _ k0 k1 ne => absurd (by rw [e]; exact ku k k0 k1) ne) (fun _ => gub.2.1)) ?_
  intro b σ2 h2 S2 Q2
  obtain ⟨F2, q⟩ := Q2
  have R2 : ga_R (fun n => n = u) (mi_sA (ty_b σ1) 12 u) (ty_b σ1) σ2 := by
    rcases q with ⟨-, q⟩ | ⟨-, q, -⟩
    · exact q
    · exact absurd (fun n e _ _ k k0 k1 ne => absurd (by rw [e]; exact ku k k0 k1) ne) (q (fun _ => 0))
  obtain ⟨B2, -, -, bl, -, -⟩ := R2
  have F28 : mi_sF σ2 9 8 = mi_sF σ1 9 8 := F2.2.2 9 8 (by decide)
  have F211 : mi_sF σ2 9 11 = mi_sF σ1 9 11 + 1 := F2.2.2 9 11 (by decide)
  have e11 : mi_sA σ2 11 = mi_sA σ1 11 := sg_Af_Ak F2 (by decide)
  have G2k : ∀ n k, 0 < n → n < mi_sF σ2 9 8 → 0 ≤ k → k < 3 → 0 ≤ ty_k σ2 n k ∧ ty_k σ2 n k < mi_sF σ2 9 8 := fun n k a b c e => by
    have := G.2 n k a (by show n < mi_sF σ1 9 8; omega) c e
    unfold ty_k at this ⊢
    rw [e11]
    have e8' : mi_sF (ty_b σ1) 9 8 = mi_sF σ1 9 8 := rfl
    have e11' : mi_sA (ty_b σ1) 11 = mi_sA σ1 11 := rfl
    rw [e8', e11'] at this
    omega
  have G2 : ty_G σ2 := ⟨by have := G.1; have e : mi_sF (ty_b σ1) 9 11 = mi_sF σ1 9 11 + 1 := rfl; omega, G2k⟩
  have e10 : mi_sA σ2 10 = mi_sA σ1 10 := sg_Af_Ak F2 (by decide)
  have e12 : mi_sA σ2 12 = mi_sA σ1 12 := sg_Af_Ak F2 (by decide)
  have e24 : mi_sA σ2 24 = mi_sA σ1 24 := sg_Af_Ak F2 (by decide)
  have e23 : mi_sE σ2 23 = mi_sE σ1 23 := sg_E F2 23
  have Z2 : ty_Z σ2 := ga_S_Z B2 G2k (by have := C1.2.1.1; omega) (by rw [e10]; exact t0)
  have C2 : CI Sx T σ2 ds := CI_z C1 Z2 F28 e10 e11 e12 e24 e23
  have H2 := ty_T_vs C2.1 (fun v => v ≠ u.toNat)
  have x12 : mi_sA σ2 12 x = x := (C2.1.2 x hx).2.1
  have hxm : Sx x ∧ ∀ v, vin v (T x) → v ≠ u.toNat := ⟨hx, fun v hv e => hno (by rw [← e]; exact hv)⟩
  refine ty_Cv_s (ty_markUnknown (d := d + 1) G2 B2 H2 (by omega) (by omega) (fun _ => by rw [x12]; exact hxm)) ?_
  intro σ3 h3 S3 Q3
  rw [x12] at Q3
  have Q' := Q3
  obtain ⟨F3, B3, tg, tg0, r, -⟩ := Q3
  have p8 : mi_sF σ3 9 8 = mi_sF σ2 9 8 := F3.2.2 9 8 (by decide)
  have p11 : mi_sA σ3 11 = mi_sA σ2 11 := sg_Af_Ak F3 (by decide)
  have p12 : mi_sA σ3 12 = mi_sA σ2 12 := sg_Af_Ak F3 (by decide)
  have p24 : mi_sA σ3 24 = mi_sA σ2 24 := sg_Af_Ak F3 (by decide)
  have p23 : mi_sE σ3 23 = mi_sE σ2 23 := sg_E F3 23
  have pr : mi_sF σ3 9 11 = mi_sF σ2 9 11 := F3.2.2 9 11 (by decide)
  have Z3 : ty_Z σ3 := ga_S_Z B3 (fun n k a b c e => by
    have := G2k n k a (by omega) c e
    unfold ty_k at this ⊢
    rw [p11]
    omega) (by have := C1.2.1.1; omega) (by rw [tg0, e10]; exact t0)
  have C3 : CI Sx T σ3 ds := CI_mu C2 Z3 p8 p11 p12 p24 p23 (fun n a b => (tg n a b).imp id (fun q => ⟨q.1, q.2.1⟩))
  have xz : x ≠ 0 := by omega
  have mk : ∀ v, vin v (T x) → mi_sA σ3 10 (v : Int) = 4 := fun v hv => by
    have r' : mi_sA σ3 13 x = 2 * mi_sF σ2 9 11 + 1 := r.resolve_left xz
    refine mu_marks H2 Q' (fun n hn a b c => ?_) _ _ rfl hxm r' v hv
    intro t3
    obtain ⟨pos, p0, ⟨-, b2, -, -⟩, -⟩ := B2
    obtain ⟨z1, z2, -⟩ := b2 n a b c
    have := bl (pos n) (by show 0 ≤ pos n; exact z1.1) z1.2
    rw [z2] at this
    have tn := ((C2.1.2 n hn.1).2.2.2.2.1 (Or.inl t3)).1
    exact hn.2 u.toNat (by rw [tn, this]; rfl) rfl
  have u3 : mi_sA σ3 10 u = 3 := by
    rcases tg u (by omega) (by omega) with e | ⟨-, -, e, -⟩
    · rw [e, e10, g10]; exact hu3
    · have tn := ((C2.1.2 u hu).2.2.2.2.1 (Or.inl (by rw [e10, g10]; exact hu3))).1
      exact absurd rfl (e.2 u.toNat (by rw [tn]; rfl))
  have K3 : KF σ σ3 := KF_tr (KF_sg M.1 (by decide) (by decide)) (KF_tr (KF_uF (KF_uF KF_rf (by decide)) (by decide)) (KF_tr (KF_sg F2 (by decide) (by decide)) (KF_sg F3 (by decide) (by decide))))
  have fl : ∀ k j : Nat, (k, j) ≠ (9, 10) → (k, j) ≠ (9, 11) → mi_sF σ3 k j = mi_sF σ k j := fun k j a b => by
    rw [F3.2.2 k j (by simpa using a), F2.2.2 k j (by simpa using a), ← M.1.2.2 k j (by simp only [List.mem_cons, List.not_mem_nil, or_false]; exact fun q => q.elim a b)]
    show mi_sF (mi_uF (mi_uF σ1 9 11 (mi_sF σ1 9 11 + 1)) 9 10 0) k j = _
    rw [mi_FF, if_neg (fun q => a (by rw [q.1, q.2])), mi_FF, if_neg (fun q => b (by rw [q.1, q.2]))]
  have al : ∀ (k : Nat) (j : Int), k ∉ [10, 13, 14, 15, 16] → mi_sA σ3 k j = mi_sA σ k j := fun k j a => by
    rw [F3.2.1 k j a, F2.2.1 k j (fun q => a (List.mem_cons_of_mem _ q)), ← M.1.2.1 k j (fun q => a (List.mem_cons_of_mem _ q))]
    rfl
  have f44 := fl 44 3 (by decide) (by decide)
  refine ⟨⟨n0, by rw [fl 3 7 (by decide) (by decide)]; exact n1, by rw [fl 3 7 (by decide) (by decide)]; exact n2, by omega, by omega⟩, ?_⟩
  exact bl_post C3 K3 (by omega) (by rw [K3.2.2.1 8 nm (by decide) (by decide)]; exact ek) mk u3 ⟨fl 17 14 (by decide) (by decide), fl 43 9 (by decide) (by decide), fl 43 7 (by decide) (by decide), (sg_B F3 43 8).trans ((sg_B F2 43 8).trans (sg_B M.1 43 8)), fl 43 10 (by decide) (by decide)⟩ (fun j => al 33 j (by decide)) (fun j => al 25 j (by decide)) (by omega) (by have := M.2.1; omega)
/-- a name that let binds: a copy of its type -/
theorem ks_namev {tk b x : Int} {k' : Int64} {t : tr} (M : MI Sx T σ0 σ ds E N key u) (S : ST σ s0 ((21, tk, b) :: l)) (t0 : 0 ≤ tk) (t1 : tk < N) (ek : E tk = k') (sc : mi_sF σ 44 3 = 1 ∧ mi_sE σ 45 0 = k' ∧ mi_sA σ 46 0 = x ∧ mi_sA σ 47 0 = 1) (hx0 : Sx x) (ht : T x = t) (tg : ∀ v, vin v t → mi_sA σ 10 (v : Int) = 4) (hroom : mi_sF σ 9 8 + pz t ≤ 512) (hr : mi_sF σ 9 11 < 99999000)
    (K : ∀ Sx' T' σ' y (ν : Nat → Nat), MI Sx' T' σ0 σ' ds E N key u → (∀ n, Sx n → Sx' n ∧ T' n = T n) → Sx' y → T' y = sb (fun v => .var (ν v)) t → (∀ v, vin v t → mi_sF σ 9 8 ≤ (ν v : Int)) → (∀ v w, vin v t → vin w t → ν v = ν w → v = w) → (∀ v, vin v t → mi_sA σ' 10 (v : Int) = 4) → mi_sA σ' 33 s0 = y → (∀ j, j ≠ s0 → mi_sA σ' 33 j = mi_sA σ 33 j) → (∀ j, mi_sA σ' 25 j = mi_sA σ 25 j) → (mi_sF σ 9 8 ≤ mi_sF σ' 9 8 ∧ mi_sF σ' 9 8 ≤ mi_sF σ 9 8 + pz t) → mi_sF σ' 9 11 = mi_sF σ 9 11 + 1 → FRS σ σ' → ST σ' (s0 + 1) l → RH X d h0 Q (s0 + 1) σ') : RH X d h0 Q s0 σ := by
  refine RH_S fun h hS => ?_
  obtain ⟨C, ⟨G, KK, n14⟩, ⟨o9, o7, o8⟩, hu, hu3⟩ := M
  obtain ⟨⟨kbb, g2, g3, g4⟩, g5, g6, g7⟩ := id G
  have hf := ty_H_f hS
  have h00 := (ty_H_u hS).2.2.2
  obtain ⟨⟨s1, s2, s3⟩, ⟨e1, e2, e3⟩, Sr⟩ := ST_c S
  have ek' : mi_sE σ 8 tk = k' := by rw [g7]; exact ek
  have gx := C.1.2 x hx0
  refine rh_expr s1 s2 s3 g2 e1 e2 e3 (P := fun y σ' => ∃ h', ty_H h' σ' ∧ cp_Q 0 x T σ y σ') (by omega) (te_name (d := d + 10) (ck_name_gen (d := d + 9) (i := 0) t0 (by omega) (by omega) (by omega) (by omega) (by omega) (by omega) (by rw [ek']; exact sc.2.1) (fun j a b => by omega) sc.2.2.2 (ty_Ci_s (ty_copy (d := d + 6) (nd := mi_sA σ 46 0) (Sx := Sx) (T := T) C.2.1 (by omega) C.1 (by rw [sc.2.2.1]; exact gx.1.1) (by rw [sc.2.2.1]; exact gx.1.2) (by rw [sc.2.2.1, gx.2.1]; exact hx0) (by rw [sc.2.2.1, gx.2.1, ht]; exact hroom) (Or.inl rfl) ⟨by omega, by omega⟩ (fun n hn q => by rw [g6]; exact CI_lo C n hn (Or.inl q))) (fun y σ' h' S' q => ⟨h', S', by rw [sc.2.2.1, gx.2.1] at q; exact q⟩)))) (fun y σ' q => ?_) ?_
  · obtain ⟨h', S', S2, T2, ν, X2, F2, -⟩ := q
    exact F2.2.2 26 7 (by decide)
  rintro y σ' ⟨h', S', q⟩
  have q' := q
  obtain ⟨S2, T2, ν', X2, F2, fr, Z2, eT, f8, -⟩ := q'
  obtain ⟨Sx', T', ν, C2, kp, hx, ex, n1, n2⟩ := CI_cp C (by omega) (by omega) hx0 q
  rw [ht] at ex n1 n2 f8
  have K2 : KF σ σ' := KF_sx F2 X2 (by omega) (by decide) (by decide)
  have K3 : KF σ (mi_uA σ' 33 s0 y) := KF_uA K2 (by decide)
  have gu := C.1.2 _ hu
  have nb : ∀ v, vin v t → 0 < (v : Int) ∧ (v : Int) < mi_sF σ 9 8 := fun v hv => CI_vl C hx0 (by rw [ht]; exact hv)
  refine K Sx' T' (mi_uA σ' 33 s0 y) y (fun v => (ν (v : Int)).toNat) ⟨CI_s C2 ⟨⟨rfl, rfl⟩, rfl, rfl, rfl, rfl, rfl, rfl⟩, ⟨GI_K G K3, KF_tr KK K3, (F2.2.2 17 14 (by decide)).trans n14⟩, ⟨(F2.2.2 43 9 (by decide)).trans o9, (F2.2.2 43 7 (by decide)).trans o7, (sg_B F2 43 8).trans o8⟩, (kp u hu).1, ?_⟩ kp hx ?_ (fun v hv => ?_) (fun v w hv hw e => ?_) (fun v hv => ?_) ?_ (fun j hj => ?_) (fun j => ?_) ⟨X2.1, f8⟩ fr ⟨F2.2.2 44 3 (by decide), F2.2.2 43 10 (by decide), F2.2.2 48 7 (by decide), fun j => ?_, fun j => F2.2.1 46 j (by decide), fun j => F2.2.1 47 j (by decide)⟩ (ST_K K3 Sr)
  · show mi_sA σ' 10 u = 3
    rw [(X2.2.1 u gu.1.1 gu.1.2).1]; exact hu3
  · rw [ex]
    refine sb_ext _ fun v hv => ?_
    unfold cp_t
    rw [if_pos ⟨tg v hv, rfl⟩]
  · have := (n1 rfl v hv (tg v hv)).1
    omega
  · have a := (n1 rfl v hv (tg v hv)).1
    have b := (n1 rfl w hw (tg w hw)).1
    exact n2 rfl v w hv hw (tg v hv) (tg w hw) (by omega)
  · show mi_sA σ' 10 (v : Int) = 4
    have z := nb v hv
    rw [(X2.2.1 _ z.1 z.2).1]; exact tg v hv
  · rw [mi_AA, if_pos ⟨rfl, rfl⟩]
  · rw [mi_AA, if_neg (fun q => hj q.2)]
    exact F2.2.1 33 j (by decide)
  · rw [mi_AA, if_neg (fun q => absurd q.1 (by decide))]
    exact F2.2.1 25 j (by decide)
  · show mi_sE σ' 45 j = _
    rw [sg_E F2 45]
end KS
