/-! ===== the law, from its entry to behind its first compile ===== -/
def dfx (k : Nat) (e : tr) : List Int := [100, 101, 102, 32, 100] ++ ([48 + (k : Int)] ++ ([32, 58, 32] ++ (wrp (brk 0 e) (prt e) ++ ([32, 61, 32, 100] ++ ([48 + (k : Int)] ++ [59, 32])))))
theorem dfx_e {bs : List Int} {k : Nat} {e : tr} : bs ++ [100, 101, 102, 32, 100] ++ [48 + (k : Int)] ++ [32, 58, 32] ++ wrp (brk 0 e) (prt e) ++ [32, 61, 32, 100] ++ [48 + (k : Int)] ++ [59, 32] = bs ++ dfx k e := by
  unfold dfx
  simp only [List.append_assoc]
theorem dfx_len {k : Nat} {e : tr} (hw : wt e) (hp : pz e ≤ 15) : (dfx k e).length ≤ 160 := by
  have := wrp_9 (w := 0) hw
  unfold dfx
  simp only [List.length_append, List.length_cons, List.length_nil]
  omega
theorem pgc_tail : flc (dec ++ (dic ++ (duc ++ []))) = 32 :: [100, 101, 102, 32, 101, 32, 61, 32, 40, 100, 48, 44, 32, 100, 49, 41, 59, 32, 100, 101, 102, 32, 105, 32, 61, 32, 102, 117, 110, 32, 120, 32, 45, 62, 32, 100, 50, 59, 32, 100, 101, 102, 32, 117, 32, 61, 32, 108, 101, 116, 32, 118, 32, 61, 32, 100, 48, 32, 105, 110, 32, 40, 118, 44, 32, 118, 41, 59] := by decide +kernel
theorem flc_pgc {e0 e1 e2 : tr} (y0 : tyl e0) (y1 : tyl e1) (y2 : tyl e2) : ([] ++ dfx 0 e0 ++ dfx 1 e1 ++ dfx 2 e2) ++ [100, 101, 102, 32, 101, 32, 61, 32, 40, 100, 48, 44, 32, 100, 49, 41, 59, 32, 100, 101, 102, 32, 105, 32, 61, 32, 102, 117, 110, 32, 120, 32, 45, 62, 32, 100, 50, 59, 32, 100, 101, 102, 32, 117, 32, 61, 32, 108, 101, 116, 32, 118, 32, 61, 32, 100, 48, 32, 105, 110, 32, 40, 118, 44, 32, 118, 41, 59] = flc (pgc e0 e1 e2 []) := by
  unfold pgc
  rw [flc_app, flc_app, flc_app, dfc_f (tyl_c y0) y0.1, dfc_f (tyl_c y1) y1.1, dfc_f (tyl_c y2) y2.1, pgc_tail]
  unfold dfx
  rw [brk_0 y0.1, brk_0 y1.1, brk_0 y2.1, wrp_f, wrp_f, wrp_f, show tokB 1 = [100, 48] from rfl, show tokB 2 = [100, 49] from rfl, show tokB 3 = [100, 50] from rfl, show List.replicate 0 (32 : Int) = [] from rfl, show List.replicate 1 (32 : Int) = [32] from rfl]
  simp
theorem BB_sg {σ σ' : mi_Sg} (B : BB σ) (F : sg_Af [1] [(0, 10)] σ σ') : BB σ' := BB_c B (fun i => by rw [sg_E F 18]) (fun i => F.2.1 19 i (by decide)) (fun i => by rw [sg_E F 4]) (fun i _ _ => F.2.1 11 i (by decide))
theorem BC_sg {σ σ' : mi_Sg} (C : BC σ) (F : sg_Af [1] [(0, 10)] σ σ') : BC σ' := by
  unfold BC at C ⊢
  rw [sg_Af_Ak F (k := 10) (by decide), sg_Af_Ak F (k := 12) (by decide), sg_Af_Ak F (k := 13) (by decide), F.2.2 9 11 (by decide)]
  exact C
section LW
variable {N : Nat} {xs : Nat → Int32} {h : mi_H} {σ : mi_Sg}
def M6 (e0 e1 e2 : tr) (σ : mi_Sg) : Prop := ∃ ds, D6 e0 e1 e2 ds ∧ IV σ ds 120 ∧ US σ
theorem cmp6 {e0 e1 e2 : tr} (B : BB σ) (C : BC σ) (h11 : mi_sF σ 9 11 = 0) (y0 : tyl e0) (y1 : tyl e1) (y2 : tyl e2) : ∀ σ1, LYQ σ (flc (pgc e0 e1 e2 [])) σ1 → ty_Ci (some (N, xs)) 81 mi_M5 [(0, .ref 0)] σ1 (fun x σ2 => x = 0 ∧ mi_sF σ2 17 14 = 6 ∧ M6 e0 e1 e2 σ2) := by
  intro σ1 Q1
  obtain ⟨F, tx⟩ := Q1
  have e11 : mi_sF σ1 9 11 = 0 := by rw [F.2.2 9 11 (by decide)]; exact h11
  have H := comp6 (X := some (N, xs)) (d := 9) (BB_sg B F) (BC_sg C F) tx y0 y1 y2 (by omega)
  intro h S
  refine mi_wp_q (H h S) (fun _ ⟨v, h', σ', e, g1, g2, x, e2', g3, ds, D, P, B', h8, h11', u1, u2, u3⟩ => ⟨v, h', σ', e, g1, g2, x, e2', g3, ?_, ds, D, ⟨P, B', (ty_H_f g1).1, by omega, by omega⟩, u1, u2, u3⟩)
  rw [P.2.2.1]
  obtain ⟨t0, t1, t2, a, b, v', c, x', y', -, -, -, -, eds⟩ := D
  rw [eds]
  rfl
theorem law_mk (hN : N ≤ 2147483647) {Q : mi_Z → Prop}
    (kk : ∀ h' σ rw nx o5 o6 e0 e1 e2 c s, TL 3 e0 → TL 3 e1 → TL 3 e2 → ty_H h' σ → M6 e0 e1 e2 σ → LT h' rw 1200 (flc (pgc e0 e1 e2 [])) → (flc (pgc e0 e1 e2 [])).length ≤ 600 → 55 ≤ rw → c ≤ 200 → s ≤ 28000 → mi_wp (some (N, xs)) 82 mi_ML 160 [(4, .int (Int32.ofInt 3)), (6, .ref o6), (5, .ref o5), (3, .ref nx), (2, .ref rw), (1, .ref 0), (0, .retAddr 3)] [] h' c s Q) : mi_wp (some (N, xs)) 82 mi_ML 0 [(0, .retAddr 3)] [] [] 0 0 Q := by
  refine law_a (fun h0 σ rw nx c0 s0 S0 B C t0 r0 T0 A0 b1 b2 ne hc0 hs0 => ?_)
  refine law_b0 (k := 0) (q := 0) hN (by decide) S0 T0 A0 b1 b2 ne rfl (by decide) (by simp) (fun h1 e0 o1 l1 g1 c1 s1 y0 S1 T1 A1 p0 q1 hc1 hs1 => ?_)
  rw [dfx_e] at T1
  have L0 := dfx_len (k := 0) y0.1 p0
  have z0 := pz_0 e0
  refine law_b1 (k := 1) (q := (pz e0).toNat) hN (by decide) S1 T1 A1 b1 b2 ne (by rw [q1]; omega) (by omega) (by simp only [List.length_append, List.length_nil]; omega) (fun h2 e1 o2 l2 g2 c2 s2 y1 S2 T2 A2 p1 q2 hc2 hs2 => ?_)
  rw [dfx_e] at T2
  have L1 := dfx_len (k := 1) y1.1 p1
  have z1 := pz_0 e1
  refine law_b1 (k := 2) (q := ((pz e0).toNat : Nat) + (pz e1).toNat) hN (by decide) S2 T2 A2 b1 b2 ne (by rw [q2]; omega) (by omega) (by simp only [List.length_append, List.length_nil]; omega) (fun h3 e2 o3 l3 g3 c3 s3 y2 S3 T3 A3 p2 q3 hc3 hs3 => ?_)
  rw [dfx_e] at T3
  have L2 := dfx_len (k := 2) y2.1 p2
  have w0 := TL_tyl y0
  have w1 := TL_tyl y1
  have w2 := TL_tyl y2
  have etx := flc_pgc w0 w1 w2
  have hl3 : ([] ++ dfx 0 e0 ++ dfx 1 e1 ++ dfx 2 e2).length ≤ 480 := by simp only [List.length_append, List.length_nil]; omega
  have hlt : 0 < (flc (pgc e0 e1 e2 [])).length ∧ (flc (pgc e0 e1 e2 [])).length ≤ 600 := by
    rw [← etx, List.length_append]
    simp only [List.length_cons, List.length_nil]
    omega
  refine law_c1 (P := M6 e0 e1 e2) (tx := flc (pgc e0 e1 e2 [])) S3 T3 b1 (by omega) etx (by omega) hlt.1 (flc_asc _ (pgc_ok (tyl_c w0) (tyl_c w1) (tyl_c w2) True.intro (fun y r q => by cases q))) t0 (cmp6 B C r0 w0 w1 w2) (fun h4 σ4 c4 s4 S4 M T4 hc4 hs4 => ?_)
  exact kk h4 σ4 rw nx o3 l3 e0 e1 e2 c4 s4 y0 y1 y2 S4 M T4 hlt.2 b1 (by omega) (by omega)
end LW
