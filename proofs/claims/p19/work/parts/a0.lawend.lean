/-! ===== the law returns true ===== -/
theorem hg_sbv {μ : Nat → Nat} : ∀ (m : Nat) (e : tr), hg e ≤ m → wt e → hg (sb (fun v => .var (μ v)) e) = hg e := by
  intro m
  induction m with
  | zero =>
    intro e hm hw
    rcases wt_c hw with ⟨v, rfl⟩ | (rfl | rfl) | ⟨a, b, wa, wb, rfl | rfl⟩ | ⟨a, wa, rfl⟩
    · rfl
    · rfl
    · rfl
    · rw [hg_tn] at hm; omega
    · rw [hg_tn] at hm; omega
    · rw [hg_tn] at hm; omega
  | succ m ih =>
    intro e hm hw
    rcases wt_c hw with ⟨v, rfl⟩ | (rfl | rfl) | ⟨a, b, wa, wb, rfl | rfl⟩ | ⟨a, wa, rfl⟩
    · rfl
    · rfl
    · rfl
    · rw [hg_tn] at hm
      rw [sb_tn, hg_tn, hg_tn, ih a (by omega) wa, ih b (by omega) wb]
    · rw [hg_tn] at hm
      rw [sb_tn, hg_tn, hg_tn, ih a (by omega) wa, ih b (by omega) wb]
    · rw [hg_tn] at hm
      rw [sb_tn, hg_tn, hg_tn, ih a (by omega) wa]
      rfl
theorem REN_hg {e t : tr} (h : wt e) (r : REN e t) : hg t = hg e := by
  obtain ⟨μ, rfl, -⟩ := r
  exact hg_sbv _ e (Nat.le_refl _) h
theorem REN_lte {t : tr} (h : wt t) : REN t (lte t) := ⟨fun v => (vl t).idxOf v, rfl, fun v w hv hw e => idx_inj ((vl_mem h).mpr hv) e⟩
theorem REN_pair {a b a' b' : tr} (h1 : REN a a') (h2 : REN b b') (da : ∀ w, vin w a → ¬ vin w b) (db : ∀ w, vin w a' → ¬ vin w b') : REN (tn 5 a b tr_0) (tn 5 a' b' tr_0) := by
  classical
  obtain ⟨μ1, e1, i1⟩ := h1
  obtain ⟨μ2, e2, i2⟩ := h2
  have ha : sb (fun v => (.var (if vin v a then μ1 v else μ2 v) : tr)) a = a' := by
    rw [e1]
    exact sb_ext a (fun v hv => by rw [if_pos hv])
  have hb : sb (fun v => (.var (if vin v a then μ1 v else μ2 v) : tr)) b = b' := by
    rw [e2]
    exact sb_ext b (fun v hv => by rw [if_neg (fun q => da v q hv)])
  have x1 : ∀ v, vin v a → vin (μ1 v) a' := fun v hv => by
    rw [e1]
    exact vin_sb' (θ := fun v => .var (μ1 v)) (v := v) rfl a hv
  have x2 : ∀ v, vin v b → vin (μ2 v) b' := fun v hv => by
    rw [e2]
    exact vin_sb' (θ := fun v => .var (μ2 v)) (v := v) rfl b hv
  refine ⟨fun v => if vin v a then μ1 v else μ2 v, by rw [sb_tn, ha, hb]; rfl, fun v w hv hw e => ?_⟩
  have c : ∀ v, vin v (tn 5 a b tr_0) → vin v a ∨ vin v b := fun v hv => (vin_tn.mp hv).elim Or.inl (fun q => q.elim Or.inr (fun q => (vin_00 q).elim))
  dsimp only at e
  rcases c v hv with v1 | v1
  · rw [if_pos v1] at e
    rcases c w hw with w1 | w1
    · rw [if_pos w1] at e
      exact i1 v w v1 w1 e
    · rw [if_neg (fun q => da w q w1)] at e
      exact (db _ (x1 v v1) (e ▸ x2 w w1)).elim
  · rw [if_neg (fun q => da v q v1)] at e
    rcases c w hw with w1 | w1
    · rw [if_pos w1] at e
      exact (db _ (x1 w w1) (e ▸ x2 v v1)).elim
    · rw [if_neg (fun q => da w q w1)] at e
      exact i2 v w v1 w1 e
theorem flc_tl {e0 e1 e2 : tr} {tl : List (Nat × Nat)} : flc (pgc e0 e1 e2 tl) = flc (pgc e0 e1 e2 []) ++ flc tl := by
  unfold pgc
  simp only [flc_app, List.append_assoc]
  rfl
theorem flc_w {t : tr} (hw : wt t) (hn : nv t ≤ 6) : [32, 100, 101, 102, 32, 119, 32, 58, 32] ++ (txt t ++ [32, 61, 32, 101, 59]) = flc (dfc 1 7 4 (lte t)) := by
  have hT : TYC (lte t) := TYC_all _ _ rfl (lte_w hw) (fun v hv => by have := lte_v hw hv; omega)
  rw [dfc_f hT (lte_w hw), txt_prt hw, show tokB 7 = [119] from rfl, show tokB 4 = [101] from rfl, show List.replicate 1 (32 : Int) = [32] from rfl]
  show _ = [32] ++ ([100, 101, 102] ++ ([32] ++ ([119] ++ ([32, 58] ++ (([32] ++ prt (sb (fun v => .var ((vl t).idxOf v)) t)) ++ ([32, 61] ++ ([32] ++ ([101] ++ [59]))))))))
  simp
section LW
variable {N : Nat} {xs : Nat → Int32}
theorem cmp7 {h : mi_H} {σ : mi_Sg} {ds : List (Int64 × tr)} {r : Int} {e0 e1 e2 t0 t1 t3 a b : tr} (S : ty_H h σ) (I : IV σ ds r) (hr : r ≤ 1000000) (y0 : TL 3 e0) (y1 : TL 3 e1) (y2 : TL 3 e2) (d3 : DT t3) (n3 : nv t3 ≤ 6) (p3 : pz t3 ≤ 31) (r0 : REN e0 t0) (r1 : REN e1 t1) (e3 : t3 = tn 5 a b tr_0) (ra : REN t0 a) (rb : REN t1 b) (dab : ∀ w, vin w a → ¬ vin w b) : ∀ σ1, LYQ σ (flc (pgc e0 e1 e2 (dfc 1 7 4 (lte t3)))) σ1 → ty_Ci (some (N, xs)) 81 mi_M5 [(0, .ref 0)] σ1 (M7 (txt t3)) := by
  intro σ1 Q1
  obtain ⟨F, tx⟩ := Q1
  have w3 := d3.1
  have hh : hg (lte t3) ≤ 5 := by
    have w0 := REN_wt y0.1 r0
    have w1 := REN_wt y1.1 r1
    have g0 := REN_hg y0.1 r0
    have g1 := REN_hg y1.1 r1
    have g2 := REN_hg w0 ra
    have g3 := REN_hg w1 rb
    have := y0.2.1
    have := y1.2.1
    rw [REN_hg w3 (REN_lte w3), e3, hg_tn]
    omega
  have W : wE e0 e1 (lte t3) := ⟨⟨lte_w w3, hh, fun v hv => by have := lte_v w3 hv; omega, by rw [REN_pz' (REN_lte w3)]; exact p3⟩, fun t0' t1' a' b' q0 q1 qa qb qd => by
    refine REN_tr ?_ (REN_lte w3)
    rw [e3]
    exact REN_pair (REN_tr (REN_sym (REN_tr q0 qa)) (REN_tr r0 ra)) (REN_tr (REN_sym (REN_tr q1 qb)) (REN_tr r1 rb)) qd dab⟩
  have h11 : mi_sF σ1 9 11 ≤ 1000000 := by
    rw [F.2.2 9 11 (by decide)]
    have := I.2.2.2.2
    omega
  have H := comp7 (X := some (N, xs)) (d := 9) (BB_sg I.2.1 F) (BC_sg (BC_of S I) F) tx (TL_tyl y0) (TL_tyl y1) (TL_tyl y2) W (by omega)
  intro h' S'
  refine mi_wp_q (H h' S') (fun _ ⟨v, h', σ', e, g1, g2, x, e2', g3, ds', tw, D', rw', P', B', h8, h11'⟩ => ⟨v, h', σ', e, g1, g2, x, e2', g3, ?_⟩)
  obtain ⟨u0, u1, u2, u3, u4, u5, eds, ⟨-, -, -, du3, -, -⟩, -, -, -, q0, q1, a', b', eu3, qa, qb, qd⟩ := D6_def D' y0 y1 y2
  have ru : REN u3 tw := by
    refine REN_tr ?_ rw'
    rw [eu3]
    exact W.2 u0 u1 a' b' q0 q1 qa qb qd
  have ww := REN_wt (lte_w w3) rw'
  have pw := REN_pz' rw'
  have pl := REN_pz' (REN_lte w3)
  have nw := nv_ren (lte_w w3) rw'
  have nl := nv_ren w3 (REN_lte w3)
  refine ⟨ds' ++ [(119, tw)], tw, u3, mi_sF σ1 9 11 + 140, by rw [eds]; rfl, ⟨P', B', (ty_H_f g1).1, h8, h11'⟩, by omega, by rw [eds]; rfl, by rw [eds]; rfl, DT_of ww (by omega) (by omega), du3, ?_, REN_i (REN_sym ru), REN_i ru⟩
  rw [(txt_ren (lte_w w3) rw').1, (txt_ren w3 (REN_lte w3)).1]
set_option maxRecDepth 100000 in
set_option maxHeartbeats 1000000 in
theorem law_true (hN : N ≤ 2147483647) : mi_wp (some (N, xs)) 82 mi_ML 0 [(0, .retAddr 3)] [] [] 0 0 (fun z => ∃ h' c' s', z = (.inl (some (.int (Int32.ofInt 1))), h', c', s') ∧ c' ≤ 3000 ∧ s' ≤ 110000) := by
  refine law_mk hN (fun h σ rw nx o5 o6 e0 e1 e2 c s y0 y1 y2 S M T hl b55 hc hs => ?_)
  obtain ⟨ds, D, I, U⟩ := M
  obtain ⟨t0, t1, t2, t3, t4, t5, eds, ⟨d0, d1, d2, d3, d4, d5⟩, sums, marks, ⟨n3, p3⟩, r0, r1, a, b, e3, ra, rb, dab⟩ := D6_def D y0 y1 y2
  have hd6 : ds.length = 6 := by rw [eds]; rfl
  have hall : ALL6 ds := fun b hb => by
    rw [eds]
    obtain rfl | rfl | rfl | rfl | rfl | rfl : b = 0 ∨ b = 1 ∨ b = 2 ∨ b = 3 ∨ b = 4 ∨ b = 5 := by omega
    · exact ⟨t0, rfl, d0⟩
    · exact ⟨t1, rfl, d1⟩
    · exact ⟨t2, rfl, d2⟩
    · exact ⟨t3, rfl, d3⟩
    · exact ⟨t4, rfl, d4⟩
    · exact ⟨t5, rfl, d5⟩
  refine law_d (r := 120) (by omega) hall S I U (by decide) T b55 (fun h1 σ1 o6' o7' l5 l9 c1 s1 S1 I1 U1 R1 hc1 hs1 => ?_)
  refine law_e S1 I1 U1 (by decide) R1 b55 hd6 (by rw [eds]; rfl) (by rw [eds]; rfl) (by rw [eds]; rfl) (by rw [eds]; rfl) (by rw [eds]; rfl) (by rw [eds]; rfl) ⟨d0.2.2.1, d1.2.2.1, d2.2.2.1, d3.2.2.1, d4.2.2.1, d5.2.2.1⟩ ⟨d0.2.2.2, d1.2.2.2, d2.2.2.2, d3.2.2.2, d4.2.2.2, d5.2.2.2⟩ sums marks (fun h2 σ2 S2 I2 R2 => ?_)
  have h3 : ds[3]? = some (tokY 4, t3) := by rw [eds]; rfl
  have hlen := txt_wl t3
  have hwl := d3.2.1
  have hl4 : (txt t3).length ≤ 400 := by omega
  have htb := txt_b d3.1 (by omega)
  refine fin_a S2 I2 (by decide) (by omega) h3 d3 R2 b55 (fun h4 σ4 tx S4 I4 p4 A4 b4 ne R4 => ?_)
  rw [Int.toNat_natCast] at A4
  refine rd_loop2 (l := txt t3) b4 hl4 p4 (fun h5 S5 A5 f5 => ?_) (txt t3).length 0 (by omega) h4 _ S4 A4 (LG_rf _ _) (fun i b hi hb => by omega)
  have R5 := LT_G1 R4 f5 b55 ne
  refine fin_b S5 A5 b4 R5 b55 ne (by omega) (fun h6 S6 A6 R6 => ?_)
  obtain ⟨g2, A6, hg2⟩ := A6
  have hl6 : (flc (pgc e0 e1 e2 []) ++ [32, 100, 101, 102, 32, 119, 32, 58, 32]).length ≤ 700 := by
    rw [List.length_append]
    simp only [List.length_cons, List.length_nil]
    omega
  refine fin_loop b4 b55 ne hl6 hl4 rfl hg2 (fun h7 S7 A7 R7 => ?_) (txt t3).length 0 (by omega) h6 S6 A6 (LT_e R6 (by rw [List.take_zero, List.append_nil]))
  have etx : (flc (pgc e0 e1 e2 []) ++ [32, 100, 101, 102, 32, 119, 32, 58, 32] ++ txt t3) ++ [32, 61, 32, 101, 59] = flc (pgc e0 e1 e2 (dfc 1 7 4 (lte t3))) := by
    rw [flc_tl (tl := dfc 1 7 4 (lte t3)), ← flc_w d3.1 n3]
    simp only [List.append_assoc]
  have hT : TYC (lte t3) := TYC_all _ _ rfl (lte_w d3.1) (fun v hv => by have := lte_v d3.1 hv; omega)
  have hl8 : (flc (pgc e0 e1 e2 (dfc 1 7 4 (lte t3)))).length ≤ 1180 ∧ 0 < (flc (pgc e0 e1 e2 (dfc 1 7 4 (lte t3)))).length := by
    rw [← etx, List.length_append, List.length_append]
    simp only [List.length_cons, List.length_nil]
    omega
  refine fin_c S7 A7 b4 R7 b55 ne (by rw [List.length_append]; omega) hl4 rfl htb etx hl8.1 hl8.2 (flc_asc _ (pgc_ok (tyl_c (TL_tyl y0)) (tyl_c (TL_tyl y1)) (tyl_c (TL_tyl y2)) (dfc_ok hT (by decide) (by decide)) (fun y r q => by cases q; exact Or.inl (by decide)))) I4.1.2.2.2.2 (by omega) (by rw [Int.toNat_natCast]; omega) (cmp7 S4 I4 (by decide) y0 y1 y2 d3 n3 p3 r0 r1 e3 ra rb dab)
end LW
