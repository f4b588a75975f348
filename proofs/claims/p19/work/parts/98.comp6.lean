/-! ===== the program of six definitions, from its text ===== -/
def dfc (bl k k' : Nat) (e : tr) : List (Nat × Nat) := (bl, 0) :: (1, k) :: (1, 20) :: (tyc 0 1 e ++ (1, 21) :: (1, k') :: [(0, 19)])
def dec : List (Nat × Nat) := [(1, 0), (1, 4), (1, 21), (1, 16), (0, 1), (0, 18), (1, 2), (0, 17), (0, 19)]
def dic : List (Nat × Nat) := [(1, 0), (1, 5), (1, 21), (1, 12), (1, 9), (1, 23), (1, 3), (0, 19)]
def duc : List (Nat × Nat) := [(1, 0), (1, 6), (1, 21), (1, 10), (1, 8), (1, 21), (1, 1), (1, 11), (1, 16), (0, 8), (0, 18), (1, 8), (0, 17), (0, 19)]
def pgc (e0 e1 e2 : tr) (tl : List (Nat × Nat)) : List (Nat × Nat) := dfc 0 1 1 e0 ++ (dfc 1 2 2 e1 ++ (dfc 1 3 3 e2 ++ (dec ++ (dic ++ (duc ++ tl)))))
theorem tyl_c {e : tr} (h : tyl e) : TYC e := TYC_all _ e rfl h.1 h.2.2.1
section DC
variable {e : tr} {bl k k' : Nat}
theorem dfc_k (h : TYC e) (hk : tokK k = 13) (hk' : tokK k' = 13) : (dfc bl k k' e).map (fun q => tokK q.2) = dfT e := by
  unfold dfc dfT
  simp only [List.map_cons, List.map_append, (h 0 1).1, hk, hk', List.map_nil]
  rfl
theorem dfc_len (h : TYC e) : (dfc bl k k' e).length = (tkf 0 e).length + 6 := by
  unfold dfc
  simp [tyc_len h]
theorem dfc_ok (h : TYC e) (hk : k < 30) (hk' : k' < 30) : okc (dfc bl k k' e) := by
  unfold dfc
  refine okc_k (by decide) (okc_k hk (okc_s (by decide) (by decide) (okc_app (h 0 1).2.2.1 (okc_s (by decide) (by decide) (okc_k hk' (by show 19 < 30; omega) (okh_c (Or.inr (by decide))))) (okh_c (Or.inl Nat.one_pos)))) (okh_c (Or.inl Nat.one_pos))) (okh_c (Or.inl Nat.one_pos))
theorem dfc_e {E : Int → Int64} {p : Int} (h : TYC e) (hw : wt e) (h6 : ∀ v, vin v e → v < 6) (H : KYS E p (dfc bl k k' e)) : EKf E p e (tokY k) (tokY k') := by
  obtain ⟨-, h1⟩ := KYS_c H
  obtain ⟨g1, h2⟩ := KYS_c h1
  obtain ⟨-, h3⟩ := KYS_c h2
  obtain ⟨h4, h5⟩ := KYS_a h3
  obtain ⟨-, h7⟩ := KYS_c h5
  obtain ⟨g2, -⟩ := KYS_c h7
  rw [tyc_len h] at g2
  rw [show p + 1 + 1 + 1 = p + 3 by omega] at h4
  rw [show p + 1 + 1 + 1 + ((tkf 0 e).length : Int) + 1 = p + ((tkf 0 e).length + 4) by omega] at g2
  exact ⟨g1, g2, kyp_all _ e rfl hw h6 _ _ _ h4⟩
theorem dec_e {E : Int → Int64} {p : Int} (H : KYS E p dec) : EKe E p := ⟨H 1 _ rfl, H 4 _ rfl, H 6 _ rfl⟩
theorem dic_e {E : Int → Int64} {p : Int} (H : KYS E p dic) : EKi E p := ⟨H 1 _ rfl, H 4 _ rfl, H 6 _ rfl⟩
theorem duc_e {E : Int → Int64} {p : Int} (H : KYS E p duc) : EKu E p := ⟨H 1 _ rfl, H 4 _ rfl, H 6 _ rfl, H 9 _ rfl, H 11 _ rfl⟩
end DC
theorem dec_ok : okc dec := by unfold dec; simp only [okc]; decide
theorem dic_ok : okc dic := by unfold dic; simp only [okc]; decide
theorem duc_ok : okc duc := by simp [duc, okc]
/-- how many bytes -/
theorem prt_len : ∀ (m : Nat) (e : tr), hg e = m → wt e → ((prt e).length : Int) = wl e ∧ wl e ≤ 7 * pz e := by
  intro m
  induction m using Nat.strongRecOn with
  | ind m ih =>
  intro e hm h
  have wr : ∀ (w : Nat) (e : tr) (l : List Int), ((wrp (brk w e) l).length : Int) = l.length + 2 * bki w e := wrp_len
  rcases wt_c h with ⟨v, rfl⟩ | (rfl | rfl) | ⟨a, b, wa, wb, rfl | rfl⟩ | ⟨a, wa, rfl⟩
  · exact ⟨rfl, by show (2 : Int) ≤ 7 * 1; omega⟩
  · exact ⟨rfl, by show (3 : Int) ≤ 7 * (1 + 0); omega⟩
  · exact ⟨rfl, by show (4 : Int) ≤ 7 * (1 + 0); omega⟩
  · rw [hg_tn] at hm
    obtain ⟨a1, a2⟩ := ih _ (by omega) a rfl wa
    obtain ⟨b1, b2⟩ := ih _ (by omega) b rfl wb
    have e5 : wl (tn 5 a b tr_0) = 3 + (wl a + 2 * bki 2 a) + (wl b + 2 * bki 2 b) := rfl
    have x := bki_01 2 a
    have y := bki_01 2 b
    have w1 := wr 2 a (prt a)
    have w2 := wr 2 b (prt b)
    rw [prt_5, e5, pz_tn5]
    simp only [List.length_append, List.length_cons, List.length_nil, Int.natCast_add]
    omega
  · rw [hg_tn] at hm
    obtain ⟨a1, a2⟩ := ih _ (by omega) a rfl wa
    obtain ⟨b1, b2⟩ := ih _ (by omega) b rfl wb
    have e5 : wl (tn 6 a b tr_0) = 4 + (wl a + 2 * bki 1 a) + (wl b + 2 * bki 0 b) := rfl
    have x := bki_01 1 a
    have y : bki 0 b = 0 := by
      rcases wt_c wb with ⟨v, rfl⟩ | (rfl | rfl) | ⟨a, b, -, -, rfl | rfl⟩ | ⟨a, -, rfl⟩
      · rfl
      · rfl
      · rfl
      · unfold bki; rw [brk_5]; rfl
      · unfold bki; rw [brk_6]; rfl
      · unfold bki; rw [brk_9]; rfl
    have w1 := wr 1 a (prt a)
    have w2 := wr 0 b (prt b)
    rw [prt_6, e5, pz_tn6]
    simp only [List.length_append, List.length_cons, List.length_nil, Int.natCast_add]
    omega
  · rw [hg_tn] at hm
    obtain ⟨a1, a2⟩ := ih _ (by omega) a rfl wa
    have e5 : wl (tn 9 a tr_0 tr_0) = 5 + (wl a + 2 * bki 3 a) := rfl
    have x := bki_01 3 a
    have w1 := wr 3 a (prt a)
    have z0 : pz tr_0 = 0 := rfl
    rw [prt_9, e5, pz_tn (by decide)]
    simp only [List.length_append, List.length_cons, List.length_nil, Int.natCast_add]
    omega
theorem brk_0 {e : tr} (wb : wt e) : brk 0 e = false := by
  rcases wt_c wb with ⟨v, rfl⟩ | (rfl | rfl) | ⟨a, b, -, -, rfl | rfl⟩ | ⟨a, -, rfl⟩
  · rfl
  · rfl
  · rfl
  · rw [brk_5]; rfl
  · rw [brk_6]; rfl
  · rw [brk_9]; rfl
/-- the bytes of a definition -/
theorem dfc_f {e : tr} {bl k k' : Nat} (h : TYC e) (hw : wt e) : flc (dfc bl k k' e) = List.replicate bl 32 ++ ([100, 101, 102] ++ ([32] ++ (tokB k ++ ([32, 58] ++ (([32] ++ prt e) ++ ([32, 61] ++ ([32] ++ (tokB k' ++ [59])))))))) := by
  unfold dfc
  rw [flc_c, flc_c, flc_c, flc_app, flc_c, flc_c, flc_c, (h 0 1).2.1, brk_0 hw]
  rfl
theorem dfc_fl {e : tr} {bl k k' : Nat} (h : TYC e) (hw : wt e) : ((flc (dfc bl k k' e)).length : Int) = bl + 11 + (tokB k).length + (tokB k').length + wl e := by
  rw [dfc_f h hw]
  have := (prt_len _ e rfl hw).1
  simp only [List.length_append, List.length_cons, List.length_nil, List.length_replicate, Int.natCast_add]
  omega
theorem pgc_ok {e0 e1 e2 : tr} {tl : List (Nat × Nat)} (y0 : TYC e0) (y1 : TYC e1) (y2 : TYC e2) (h : okc tl) (hd : okh tl) : okc (pgc e0 e1 e2 tl) := by
  have o : ∀ k k' e r, okh (dfc 1 k k' e ++ r) := fun k k' e r => okh_c (Or.inl Nat.one_pos)
  exact okc_app (dfc_ok y0 (by decide) (by decide)) (okc_app (dfc_ok y1 (by decide) (by decide)) (okc_app (dfc_ok y2 (by decide) (by decide)) (okc_app dec_ok (okc_app dic_ok (okc_app duc_ok h hd) (okh_c (Or.inl Nat.one_pos))) (okh_c (Or.inl Nat.one_pos))) (okh_c (Or.inl Nat.one_pos))) (o _ _ _ _)) (o _ _ _ _)
/-- between calls, with a program -/
def PI (σ : mi_Sg) (ds : List (Int64 × tr)) : Prop := (∃ Sx T, CI Sx T σ ds ∧ ∀ n, Sx n → ∀ v, vin v (T n) → mi_sA σ 10 (v : Int) = 4) ∧ kb σ ∧ mi_sF σ 17 14 = ds.length ∧ mi_sF σ 9 9 = mi_sF σ 9 8 ∧ mi_sF σ 0 10 = 0
theorem PI_of {σ : mi_Sg} {ds : List (Int64 × tr)} {E : Int → Int64} {N : Int} (I : KI σ ds E N) (f : mi_sF σ 0 10 = 0) : PI (mi_uF σ 9 9 (mi_sF σ 9 8)) ds := by
  obtain ⟨⟨Sx, T, C⟩, G, n14, -⟩ := I
  have C' := CI_sub C (fun e => ∀ v, vin v e → mi_sA σ 10 (v : Int) = 4) (fun n k hn hp k0 k1 _ v hv => hp v (ty_T_kv C.1 hn k0 k1 hv)) (fun v h => by rw [vin_tn] at h; rcases h with h | h | h <;> exact h.elim) (fun v h => by rw [vin_tn] at h; rcases h with h | h | h <;> exact h.elim) (fun i q hq => (C.2.2.2.2.2 i q hq).2.2.2.2.2)
  exact ⟨⟨_, T, CI_s C' ⟨⟨rfl, rfl⟩, rfl, rfl, rfl, rfl, rfl, rfl⟩, fun n hn => hn.2⟩, G.1.1, n14, rfl, f⟩
theorem BB_K {σ σ' : mi_Sg} (B : BB σ) (K : KF σ σ') : BB σ' := BB_c B (fun i => K.2.2.1 18 i (by decide) (by decide)) (fun i => K.1 19 i (by decide)) (fun i => K.2.2.1 4 i (by decide) (by decide)) K.2.2.2
theorem comp6 {X : mi_X} {d : Nat} {σ : mi_Sg} {e0 e1 e2 : tr} (B : BB σ) (C : BC σ) (tx : TX σ (flc (pgc e0 e1 e2 []))) (y0 : tyl e0) (y1 : tyl e1) (y2 : tyl e2) (hr : mi_sF σ 9 11 < 99980000) : ty_Ci X (d + 72) mi_M5 [(0, .ref 0)] σ (fun x σ' => x = 0 ∧ ∃ ds, D6 e0 e1 e2 ds ∧ PI σ' ds ∧ BB σ' ∧ mi_sF σ' 9 8 ≤ 160 ∧ mi_sF σ' 9 11 ≤ mi_sF σ 9 11 + 120 ∧ mi_sA σ' 25 72 = 1 ∧ mi_sA σ' 25 120 = 1 ∧ mi_sA σ' 25 97 = 0) := by
  have c0 := tyl_c y0
  have c1 := tyl_c y1
  have c2 := tyl_c y2
  have l0 := tkf_len (e := e0) _ rfl y0.1 0
  have l1 := tkf_len (e := e1) _ rfl y1.1 0
  have l2 := tkf_len (e := e2) _ rfl y2.1 0
  have z0 := y0.2.2.2
  have z1 := y1.2.2.2
  have z2 := y2.2.2.2
  have el : (pgc e0 e1 e2 []).length = ((tkf 0 e0).length + 6) + (((tkf 0 e1).length + 6) + (((tkf 0 e2).length + 6) + (9 + (8 + (14 + 0))))) := by
    unfold pgc
    simp only [List.length_append, dfc_len c0, dfc_len c1, dfc_len c2]
    rfl
  have ef : ((flc (pgc e0 e1 e2 [])).length : Int) ≤ 1200 := by
    unfold pgc
    simp only [flc_app, List.length_append, Int.natCast_add]
    rw [dfc_fl c0 y0.1, dfc_fl c1 y1.1, dfc_fl c2 y2.1]
    have w0 := (prt_len _ e0 rfl y0.1).2
    have w1 := (prt_len _ e1 rfl y1.1).2
    have w2 := (prt_len _ e2 rfl y2.1).2
    have q1 : ((flc dec).length : Int) = 18 := rfl
    have q2 : ((flc dic).length : Int) = 21 := rfl
    have q3 : ((flc duc).length : Int) = 30 := rfl
    have q4 : ((flc ([] : List (Nat × Nat))).length : Int) = 0 := rfl
    have t1 : ((tokB 1).length : Int) = 2 := rfl
    have t2 : ((tokB 2).length : Int) = 2 := rfl
    have t3 : ((tokB 3).length : Int) = 2 := rfl
    omega
  have mk : (pgc e0 e1 e2 []).map (fun q => tokK q.2) ++ [18] = pgT e0 e1 e2 [18] := by
    unfold pgc pgT
    simp only [List.map_append, dfc_k c0 (k := 1) (k' := 1) rfl rfl, dfc_k c1 (k := 2) (k' := 2) rfl rfl, dfc_k c2 (k := 3) (k' := 3) rfl rfl, List.append_assoc]
    rfl
  have s0 := fun p => stf_len (e := e0) _ rfl y0.1 0 0 p
  have s1 := fun p => stf_len (e := e1) _ rfl y1.1 0 0 p
  have s2 := fun p => stf_len (e := e2) _ rfl y2.1 0 0 p
  have d0 := dfT_len e0
  have d1 := dfT_len e1
  have d2 := dfT_len e2
  have v0 := dfS_len e0
  have v1 := dfS_len e1
  have v2 := dfS_len e2
  obtain ⟨p1, hp1⟩ : ∃ p : Int, p = (dfT e0).length := ⟨_, rfl⟩
  obtain ⟨p2, hp2⟩ : ∃ p : Int, p = p1 + (dfT e1).length := ⟨_, rfl⟩
  obtain ⟨p3, hp3⟩ : ∃ p : Int, p = p2 + (dfT e2).length := ⟨_, rfl⟩
  obtain ⟨r1, hs1⟩ : ∃ s : Int, s = (dfS e0 0 0).length := ⟨_, rfl⟩
  obtain ⟨r2, hs2⟩ : ∃ s : Int, s = r1 + (dfS e1 p1 r1).length := ⟨_, rfl⟩
  obtain ⟨r3, hs3⟩ : ∃ s : Int, s = r2 + (dfS e2 p2 r2).length := ⟨_, rfl⟩
  have a0 := s0 (0 + 3)
  have a1 := s1 (p1 + 3)
  have a2 := s2 (p2 + 3)
  have b0 := v0 0 0
  have b1 := v1 p1 r1
  have b2 := v2 p2 r2
  have v4 : (((deS p3 r3).length : Nat) : Int) = 5 := rfl
  have v5 : (((diS (p3 + 9) (r3 + 5)).length : Nat) : Int) = 5 := rfl
  have v6 : (((duS (p3 + 9 + 8) (r3 + 5 + 5)).length : Nat) : Int) = 8 := rfl
  refine ty_C_S fun h hS => ?_
  refine comp_g (n := ((pgT e0 e1 e2 [18]).length : Int)) (steps := dfS e0 0 0 ++ (dfS e1 p1 r1 ++ (dfS e2 p2 r2 ++ (deS p3 r3 ++ (diS (p3 + 9) (r3 + 5) ++ (duS (p3 + 9 + 8) (r3 + 5 + 5) ++ []))))))
    (R := fun σ4 => ∃ ds E N, D6 e0 e1 e2 ds ∧ KI σ4 ds E N ∧ BB σ4 ∧ mi_sF σ4 9 8 ≤ 160 ∧ mi_sF σ4 9 11 ≤ mi_sF σ 9 11 + 120 ∧ (mi_sA σ4 25 72 = 1 ∧ mi_sA σ4 25 120 = 1 ∧ mi_sA σ4 25 97 = 0) ∧ mi_sF σ4 0 10 = 0) B C tx (pgc_ok c0 c1 c2 True.intro (fun y r q => by cases q)) (by rw [el]; omega) (by omega) (fun σ2 g0 g1 T => ?_) ?_ (fun h0 σ3 E I ky S f8 f11 r25 B3 f7 f10 => ?_) ?_
  · rw [mk] at T
    have hl : ((pgT e0 e1 e2 [18]).length : Int) = mi_sF σ2 3 7 := by
      rw [g1, ← mk, List.length_append, List.length_map]
      rfl
    exact pr_six (d := d) (p6 := p3 + 9 + 8 + 14) (s6 := r3 + 5 + 5 + 8) (tL := fun _ _ => []) y0 y1 y2 hp1 hp2 hp3 rfl rfl rfl hs1 hs2 hs3 rfl rfl rfl (rp_nil (by omega) (by omega)) (by simp) g0 (by rw [g1, el]; omega) T (by rw [hl]; omega) (by show r3 + 5 + 5 + 8 + ((0 : Nat) : Int) ≤ 1000; omega)
  · simp only [List.length_append, List.length_nil]
    omega
  · obtain ⟨k0, ky⟩ := KYS_a ky
    obtain ⟨k1, ky⟩ := KYS_a ky
    obtain ⟨k2, ky⟩ := KYS_a ky
    obtain ⟨k3, ky⟩ := KYS_a ky
    obtain ⟨k4, ky⟩ := KYS_a ky
    obtain ⟨k5, ky⟩ := KYS_a ky
    have E0 := dfc_e c0 y0.1 y0.2.2.1 k0
    have E1 := dfc_e c1 y1.1 y1.2.2.1 k1
    have E2 := dfc_e c2 y2.1 y2.2.2.1 k2
    have E3 := dec_e k3
    have E4 := dic_e k4
    have E5 := duc_e k5
    have n3 : ((dec.length : Nat) : Int) = 9 := rfl
    have n4 : ((dic.length : Nat) : Int) = 8 := rfl
    rw [dfc_len c0] at E1 E2 E3 E4 E5
    rw [dfc_len c1] at E2 E3 E4 E5
    rw [dfc_len c2] at E3 E4 E5
    rw [n3] at E4 E5
    rw [n4] at E5
    rw [show (0 : Int) + ((((tkf 0 e0).length + 6 : Nat)) : Int) = p1 by omega] at E1 E2 E3 E4 E5
    rw [show p1 + ((((tkf 0 e1).length + 6 : Nat)) : Int) = p2 by omega] at E2 E3 E4 E5
    rw [show p2 + ((((tkf 0 e2).length + 6 : Nat)) : Int) = p3 by omega] at E3 E4 E5
    refine pg6 (N := ((pgc e0 e1 e2 []).length : Int) + 1) I S (by omega) (by omega) (by omega) rfl rfl (by rw [el]; omega) hs1 hs2 hs3 rfl rfl rfl y0 y1 y2 E0 E1 E2 E3 E4 E5 f8 (by omega) fun σ4 ds D I4 F4 g8 g11 g25 S4 => ?_
    have sz : r3 + 5 + 5 + 8 = mi_sF σ4 26 7 := by
      rw [F4.2.1 26 7 (by decide), f7]
      simp only [List.length_append, List.length_nil, Int.natCast_add]
      omega
    refine rh_end (P := fun σ4 => ∃ ds E N, D6 e0 e1 e2 ds ∧ KI σ4 ds E N ∧ BB σ4 ∧ mi_sF σ4 9 8 ≤ 160 ∧ mi_sF σ4 9 11 ≤ mi_sF σ 9 11 + 120 ∧ (mi_sA σ4 25 72 = 1 ∧ mi_sA σ4 25 120 = 1 ∧ mi_sA σ4 25 97 = 0) ∧ mi_sF σ4 0 10 = 0) (by omega) sz S4.1.2.2 ⟨ds, E, _, D, I4, BB_K B3 F4, g8, by omega, ⟨?_, ?_, ?_⟩, (F4.2.1 0 10 (by decide)).trans f10⟩
    · rw [g25.1, r25 72 (by omega) (by omega)]; rfl
    · rw [g25.2.1, r25 120 (by omega) (by omega)]; rfl
    · rw [g25.2.2, r25 97 (by omega) (by omega)]
  · rintro σ4 ⟨ds, E, N, D, I4, B4, g8, g11, g25, f10⟩
    exact ⟨I4.2.1.1.2.1, rfl, ds, D, PI_of I4 f10, BB_c B4 (fun _ => rfl) (fun _ => rfl) (fun _ => rfl) (fun _ _ _ => rfl), g8, g11, g25⟩
