/-! ===== the definitions of the law's program, as the law asks for them ===== -/
theorem rk_lt : ∀ (m : Nat) (e : tr), hg e ≤ m → wt e → rk e < pz e := by
  intro m
  induction m with
  | zero =>
    intro e hm hw
    rcases wt_c hw with ⟨v, rfl⟩ | (rfl | rfl) | ⟨a, b, wa, wb, rfl | rfl⟩ | ⟨a, wa, rfl⟩
    · show (0 : Int) < 1; decide
    · rw [hg_tn] at hm; omega
    · rw [hg_tn] at hm; omega
    · rw [hg_tn] at hm; omega
    · rw [hg_tn] at hm; omega
    · rw [hg_tn] at hm; omega
  | succ m ih =>
    intro e hm hw
    have r0 : rk tr_0 = 0 := rfl
    rcases wt_c hw with ⟨v, rfl⟩ | (rfl | rfl) | ⟨a, b, wa, wb, rfl | rfl⟩ | ⟨a, wa, rfl⟩
    · show (0 : Int) < 1; decide
    · rw [rk_tn (by decide), r0]; show _ < (1 : Int); decide
    · rw [rk_tn (by decide), r0]; show _ < (1 : Int); decide
    · rw [hg_tn] at hm
      have ha := ih a (by omega) wa
      have hb := ih b (by omega) wb
      have za := pz_0 a
      have zb := pz_0 b
      rw [rk_tn (by decide), pz_tn5, r0, if_neg (by decide)]
      omega
    · rw [hg_tn] at hm
      have ha := ih a (by omega) wa
      have hb := ih b (by omega) wb
      have za := pz_0 a
      have zb := pz_0 b
      rw [rk_tn (by decide), pz_tn6, r0, if_pos rfl]
      omega
    · rw [hg_tn] at hm
      have ha := ih a (by omega) wa
      have za := pz_0 a
      rw [rk_tn (by decide), pz_tn9, r0, if_neg (by decide)]
      omega
theorem wrp_b {c : Bool} {l : List Int} (h : ∀ b ∈ l, 0 ≤ b ∧ b < 128) : ∀ b ∈ wrp c l, 0 ≤ b ∧ b < 128 := by
  cases c with
  | false => exact h
  | true =>
    intro b hb
    rw [wrp_t] at hb
    rcases List.mem_cons.mp hb with rfl | hb
    · exact ⟨by decide, by decide⟩
    · rcases List.mem_append.mp hb with hb | hb
      · exact h b hb
      · cases List.mem_singleton.mp hb
        exact ⟨by decide, by decide⟩
theorem app_b {l l' : List Int} (h : ∀ b ∈ l, 0 ≤ b ∧ b < 128) (h' : ∀ b ∈ l', 0 ≤ b ∧ b < 128) : ∀ b ∈ l ++ l', 0 ≤ b ∧ b < 128 := fun b hb => (List.mem_append.mp hb).elim (h b) (h' b)
theorem prt_b : ∀ (m : Nat) (e : tr), hg e ≤ m → wt e → (∀ v, vin v e → v < 26) → ∀ b ∈ prt e, 0 ≤ b ∧ b < 128 := by
  intro m
  have vars : ∀ v : Nat, v < 26 → ∀ b ∈ prt (.var v), 0 ≤ b ∧ b < 128 := fun v hv b hb => by
    have hb' : b ∈ [39, 97 + (v : Int)] := hb
    simp at hb'
    omega
  have lit : ∀ l : List Int, (l.all fun b => decide (0 ≤ b) && decide (b < 128)) = true → ∀ b ∈ l, 0 ≤ b ∧ b < 128 := fun l h b hb => by
    have := List.all_eq_true.mp h b hb
    simpa using this
  induction m with
  | zero =>
    intro e hm hw hv
    rcases wt_c hw with ⟨v, rfl⟩ | (rfl | rfl) | ⟨a, b, wa, wb, rfl | rfl⟩ | ⟨a, wa, rfl⟩
    · exact vars v (hv v rfl)
    · rw [hg_tn] at hm; omega
    · rw [hg_tn] at hm; omega
    · rw [hg_tn] at hm; omega
    · rw [hg_tn] at hm; omega
    · rw [hg_tn] at hm; omega
  | succ m ih =>
    intro e hm hw hv
    rcases wt_c hw with ⟨v, rfl⟩ | (rfl | rfl) | ⟨a, b, wa, wb, rfl | rfl⟩ | ⟨a, wa, rfl⟩
    · exact vars v (hv v rfl)
    · exact lit [105, 110, 116] rfl
    · exact lit [98, 111, 111, 108] rfl
    · rw [hg_tn] at hm
      rw [prt_5]
      exact app_b (wrp_b (ih a (by omega) wa (fun v q => hv v (vin_tn.mpr (Or.inl q))))) (app_b (lit [32, 42, 32] rfl) (wrp_b (ih b (by omega) wb (fun v q => hv v (vin_tn.mpr (Or.inr (Or.inl q)))))))
    · rw [hg_tn] at hm
      rw [prt_6]
      exact app_b (wrp_b (ih a (by omega) wa (fun v q => hv v (vin_tn.mpr (Or.inl q))))) (app_b (lit [32, 45, 62, 32] rfl) (wrp_b (ih b (by omega) wb (fun v q => hv v (vin_tn.mpr (Or.inr (Or.inl q)))))))
    · rw [hg_tn] at hm
      rw [prt_9]
      exact app_b (lit [108, 105, 115, 116] rfl) (app_b (lit [32] rfl) (wrp_b (ih a (by omega) wa (fun v q => hv v (vin_tn.mpr (Or.inl q))))))
/-- the letters of its own text -/
def lte (e : tr) : tr := sb (fun v => .var ((vl e).idxOf v)) e
theorem lte_v {e : tr} (hw : wt e) {v : Nat} (hv : vin v (lte e)) : (v : Int) < nv e := by
  obtain ⟨w, h1, h2⟩ := vin_sb e hv
  have h3 : (vl e).idxOf w = v := h2
  have := List.idxOf_lt_length_of_mem ((vl_mem hw).mpr h1)
  unfold nv
  omega
theorem lte_w {e : tr} (hw : wt e) : wt (lte e) := wt_sb _ e rfl hw (fun _ _ => trivial)
theorem txt_b {e : tr} (hw : wt e) (hn : nv e ≤ 26) : ∀ b ∈ txt e, 0 ≤ b ∧ b < 128 := by
  rw [txt_prt hw]
  exact prt_b _ _ (Nat.le_refl _) (lte_w hw) (fun v hv => by have := lte_v hw hv; omega)
/-- a type as the law meets it -/
def DT (t : tr) : Prop := wt t ∧ wl t ≤ 400 ∧ pz t ≤ 35 ∧ nv t ≤ 13
theorem DT_of {t : tr} (hw : wt t) (hp : pz t ≤ 35) (hn : nv t ≤ 13) : DT t := ⟨hw, by have := (prt_len _ t rfl hw).2; omega, hp, hn⟩
theorem REN_pz' {e t : tr} (r : REN e t) : pz t = pz e := by
  obtain ⟨μ, rfl, -⟩ := r
  exact pz_sbv e
theorem REN_wt {e t : tr} (h : wt e) (r : REN e t) : wt t := by
  obtain ⟨μ, rfl, -⟩ := r
  exact wt_sb _ e rfl h (fun _ _ => trivial)
theorem D6_def {e0 e1 e2 : tr} {ds : List (Int64 × tr)} (D : D6 e0 e1 e2 ds) (y0 : TL 3 e0) (y1 : TL 3 e1) (y2 : TL 3 e2) : ∃ t0 t1 t2 t3 t4 t5 : tr, (ds = [(tokY 1, t0), (tokY 2, t1), (tokY 3, t2), (tokY 4, t3), (tokY 5, t4), (tokY 6, t5)]) ∧ (DT t0 ∧ DT t1 ∧ DT t2 ∧ DT t3 ∧ DT t4 ∧ DT t5) ∧ (pz t3 = 1 + pz t0 + pz t1 ∧ pz t4 = 2 + pz t2 ∧ pz t5 = 1 + 2 * pz t0) ∧ (nv t4 = 1 + nv t2 ∧ nv t5 = 2 * nv t0) ∧ (nv t3 ≤ 6 ∧ pz t3 ≤ 31) ∧ (REN e0 t0 ∧ REN e1 t1 ∧ ∃ a b, t3 = tn 5 a b tr_0 ∧ REN t0 a ∧ REN t1 b ∧ ∀ w, vin w a → ¬ vin w b) := by
  obtain ⟨t0, t1, t2, a, b, v, c, x, y, ⟨r0, r1, r2⟩, ⟨ra, rb, dab⟩, ⟨rc, dv⟩, ⟨rx, ry, dxy⟩, eds⟩ := D
  have w0 := REN_wt y0.1 r0
  have w1 := REN_wt y1.1 r1
  have w2 := REN_wt y2.1 r2
  have wa := REN_wt w0 ra
  have wb := REN_wt w1 rb
  have wc := REN_wt w2 rc
  have wx := REN_wt w0 rx
  have wy := REN_wt w0 ry
  have p0 := REN_pz' r0
  have p1 := REN_pz' r1
  have p2 := REN_pz' r2
  have pa := REN_pz' ra
  have pb := REN_pz' rb
  have pc := REN_pz' rc
  have px := REN_pz' rx
  have py := REN_pz' ry
  have q0 : pz e0 ≤ 15 := y0.2.2.2
  have q1 : pz e1 ≤ 15 := y1.2.2.2
  have q2 : pz e2 ≤ 15 := y2.2.2.2
  have n0 : nv e0 ≤ 3 := nv_lt y0.1 y0.2.2.1
  have n1 : nv e1 ≤ 3 := nv_lt y1.1 y1.2.2.1
  have n2 : nv e2 ≤ 3 := nv_lt y2.1 y2.2.2.1
  have m0 := nv_ren y0.1 r0
  have m1 := nv_ren y1.1 r1
  have m2 := nv_ren y2.1 r2
  have ma := nv_ren w0 ra
  have mb := nv_ren w1 rb
  have mc := nv_ren w2 rc
  have mx := nv_ren w0 rx
  have my := nv_ren w0 ry
  have v3 := nv_5 wa wb dab
  have v4 := nv_6 wc dv
  have v5 := nv_5 wx wy dxy
  have z3 := pz_tn5 a b
  have z4 := pz_tn6 (.var v) c
  have zv : pz (.var v) = 1 := rfl
  have z5 := pz_tn5 x y
  exact ⟨t0, t1, t2, _, _, _, eds, ⟨DT_of w0 (by omega) (by omega), DT_of w1 (by omega) (by omega), DT_of w2 (by omega) (by omega), DT_of (wt_5.mpr ⟨wa, wb⟩) (by omega) (by omega), DT_of (wt_6.mpr ⟨trivial, wc⟩) (by omega) (by omega), DT_of (wt_5.mpr ⟨wx, wy⟩) (by omega) (by omega)⟩, ⟨by omega, by omega, by omega⟩, ⟨by omega, by omega⟩, ⟨by omega, by omega⟩, r0, r1, a, b, rfl, ra, rb, dab⟩
theorem STR_a {X : mi_X} {a : Nat} (h : a < 6) : STR X (4 * (36 + a)) (tokB (a + 1)) := by
  obtain rfl | rfl | rfl | rfl | rfl | rfl : a = 0 ∨ a = 1 ∨ a = 2 ∨ a = 3 ∨ a = 4 ∨ a = 5 := by omega
  · exact STR_36
  · exact STR_37
  · exact STR_38
  · exact STR_39
  · exact STR_40
  · exact STR_41
theorem tokY_ne {a j : Nat} (h : a < 6) (hj : j < a) : tokY (j + 1) ≠ tokY (a + 1) := by
  have key : ∀ a : Fin 6, ∀ j : Fin 6, j.val < a.val → tokY (j.val + 1) ≠ tokY (a.val + 1) := by decide +kernel
  exact key ⟨a, h⟩ ⟨j, by omega⟩ hj
section LBF
variable {h h' : mi_H} {a b : Nat} {l : List Int}
theorem LB_F0 (A : LB h a l) (f : LF h h' []) : LB h' a l := LB_F A f (by simp)
theorem LB_F1 (A : LB h a l) (f : LF h h' [b]) (hn : a ≠ b) : LB h' a l := LB_F A f (by simpa using hn)
theorem LR_G {n : Nat} {q : Nat → Option Nat} (A : LR h a n q) (f : LG h h' []) (ha : 55 ≤ a) : LR h' a n q := by
  unfold LR
  rw [f.2 a ha (LR_lt A) (by simp)]
  exact A
end LBF
