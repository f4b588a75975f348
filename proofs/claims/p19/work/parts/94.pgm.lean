/-! ===== the program of the law, parsed ===== -/
theorem RP_c {X : mi_X} {d : Nat} {n : Int} {ts ts' : List Int} {l l' : Int → Int → List (Int × Int × Int)} (h : RP X d n ts l) (e : ts = ts') (e' : ∀ p s, l p s = l' p s) : RP X d n ts' l' := by
  subst e
  obtain rfl : l = l' := funext fun p => funext fun s => e' p s
  exact h
theorem rp_it {X : mi_X} {d : Nat} {n m : Int} {tI ts' : List Int} {lI l' : Int → Int → List (Int × Int × Int)} (hA : DS X (d + 6) mi_M70 tI lI) (h1 : ∃ r, tI = 1 :: r) (hn0 : 0 ≤ n) (hn1 : n < 290) (hm : m = n + 1) (hR : RP X d m ts' l') (hts : ts' ≠ []) : RP X d n (tI ++ ts') (fun p s => lI p s ++ l' (p + tI.length) (s + (lI p s).length)) := by
  obtain ⟨r, rfl⟩ := h1
  subst hm
  refine RP_c (rp_cons hn0 hn1 hA hR hts) rfl (fun p s => ?_)
  rw [show ((1 :: r).length : Int) = (r.length + 1 : Int) by simp]
theorem app_ne {a b : List Int} (h : b ≠ []) : a ++ b ≠ [] := fun q => h (List.append_eq_nil_iff.mp q).2
/-- six definitions, then what stands behind them -/
def pgT (e0 e1 e2 : tr) (tT : List Int) : List Int := dfT e0 ++ (dfT e1 ++ (dfT e2 ++ (deT ++ (diT ++ (duT ++ tT)))))
theorem pr_six {X : mi_X} {d : Nat} {σ : mi_Sg} {e0 e1 e2 : tr} {p1 p2 p3 p4 p5 p6 s1 s2 s3 s4 s5 s6 : Int} {tT : List Int} {tL : Int → Int → List (Int × Int × Int)} (y0 : tyl e0) (y1 : tyl e1) (y2 : tyl e2)
    (hp1 : p1 = (dfT e0).length) (hp2 : p2 = p1 + (dfT e1).length) (hp3 : p3 = p2 + (dfT e2).length) (hp4 : p4 = p3 + 9) (hp5 : p5 = p4 + 8) (hp6 : p6 = p5 + 14)
    (hs1 : s1 = (dfS e0 0 0).length) (hs2 : s2 = s1 + (dfS e1 p1 s1).length) (hs3 : s3 = s2 + (dfS e2 p2 s2).length) (hs4 : s4 = s3 + 5) (hs5 : s5 = s4 + 5) (hs6 : s6 = s5 + 8)
    (hT : RP X (d + 64) 5 tT tL) (hne : tT ≠ []) (h0 : mi_sF σ 2 0 = 0) (h3 : mi_sF σ 3 7 ≤ 301) (T : tq σ 0 (pgT e0 e1 e2 tT)) (hlen : ((pgT e0 e1 e2 tT).length : Int) ≤ mi_sF σ 3 7) (hroom : s6 + (tL p6 s6).length ≤ 1000) : ty_Cv X (d + 71) mi_M75 [(0, .ref 42), (1, .ref 26)] σ (fun σ' => ps26_Q (mi_uF (mi_uF (mi_uF σ 42 2 26) 26 7 0) 42 3 0) σ' (pgT e0 e1 e2 tT).length (dfS e0 0 0 ++ (dfS e1 p1 s1 ++ (dfS e2 p2 s2 ++ (deS p3 s3 ++ (diS p4 s4 ++ (duS p5 s5 ++ tL p6 s6))))))) := by
  have A0 := ds_df (X := X) (d := d) y0.1 (by have := y0.2.1; omega)
  have A1 := ds_df (X := X) (d := d) y1.1 (by have := y1.2.1; omega)
  have A2 := ds_df (X := X) (d := d) y2.1 (by have := y2.2.1; omega)
  have R5 := rp_it (n := 4) (ds_du (X := X) (d := d)) ⟨_, rfl⟩ (by omega) (by omega) (by omega) hT hne
  have R4 := rp_it (n := 3) (ds_di (X := X) (d := d)) ⟨_, rfl⟩ (by omega) (by omega) (by omega) R5 (app_ne hne)
  have R3 := rp_it (n := 2) (ds_de (X := X) (d := d)) ⟨_, rfl⟩ (by omega) (by omega) (by omega) R4 (app_ne (app_ne hne))
  have R2 := rp_it (n := 1) A2 ⟨_, rfl⟩ (by omega) (by omega) (by omega) R3 (app_ne (app_ne (app_ne hne)))
  have R1 := rp_it (n := 0) A1 ⟨_, rfl⟩ (by omega) (by omega) (by omega) R2 (app_ne (app_ne (app_ne (app_ne hne))))
  have q4 : ((deT.length : Nat) : Int) = 9 := rfl
  have q5 : ((diT.length : Nat) : Int) = 8 := rfl
  have q6 : ((duT.length : Nat) : Int) = 14 := rfl
  have v4 : ∀ p s, (((deS p s).length : Nat) : Int) = 5 := fun _ _ => rfl
  have v5 : ∀ p s, (((diS p s).length : Nat) : Int) = 5 := fun _ _ => rfl
  have v6 : ∀ p s, (((duS p s).length : Nat) : Int) = 8 := fun _ _ => rfl
  have eL : ∀ a b, a = p1 → b = s1 → (fun p s => dfS e1 p s ++ (fun p s => dfS e2 p s ++ (fun p s => deS p s ++ (fun p s => diS p s ++ (fun p s => duS p s ++ tL (p + duT.length) (s + (duS p s).length)) (p + diT.length) (s + (diS p s).length)) (p + deT.length) (s + (deS p s).length)) (p + (dfT e2).length) (s + (dfS e2 p s).length)) (p + (dfT e1).length) (s + (dfS e1 p s).length)) a b = dfS e1 p1 s1 ++ (dfS e2 p2 s2 ++ (deS p3 s3 ++ (diS p4 s4 ++ (duS p5 s5 ++ tL p6 s6)))) := fun a b ea eb => by
    rw [ea, eb]
    simp only [q4, q5, q6, v4, v5, v6, ← hp2, ← hs2, ← hp3, ← hs3, ← hp4, ← hs4, ← hp5, ← hs5, ← hp6, ← hs6]
  obtain ⟨lR, eR, R1'⟩ : ∃ lR : Int → Int → List (Int × Int × Int), (∀ a b, a = p1 → b = s1 → lR a b = dfS e1 p1 s1 ++ (dfS e2 p2 s2 ++ (deS p3 s3 ++ (diS p4 s4 ++ (duS p5 s5 ++ tL p6 s6))))) ∧ RP X (d + 64) 0 (dfT e1 ++ (dfT e2 ++ (deT ++ (diT ++ (duT ++ tT))))) lR := ⟨_, eL, R1⟩
  have tl : ∃ ts : List Int, dfT e0 = 1 :: ts ∧ ((ts.length : Nat) : Int) + 1 = p1 := ⟨_, rfl, by rw [hp1]; simp [dfT]⟩
  obtain ⟨ts, ets, elen⟩ := tl
  have A0' : DS X (d + 64 + 6) mi_M70 (1 :: ts) (dfS e0) := ets ▸ A0
  have eT : (1 :: ts) ++ (dfT e1 ++ (dfT e2 ++ (deT ++ (diT ++ (duT ++ tT))))) = pgT e0 e1 e2 tT := by
    unfold pgT
    rw [ets]
  have hl : ((pgT e0 e1 e2 tT).length : Int) = ts.length + 1 + (dfT e1 ++ (dfT e2 ++ (deT ++ (diT ++ (duT ++ tT))))).length := by
    rw [← eT]; simp [List.length_append]; omega
  have hL := eR (ts.length + 1 : Int) ((dfS e0 0 0).length : Int) elen hs1.symm
  refine ty_Cv_m (pr_readProgram (d := d + 64) h0 h3 A0' R1' (app_ne (app_ne (app_ne (app_ne (app_ne hne))))) (by rw [eT]; exact T) (by rw [← hl]; exact hlen) ?_) (fun σ' q => ?_)
  · rw [hL]
    simp only [List.length_append, Int.natCast_add]
    rw [v4, v5, v6]
    omega
  · refine ps26_eq q (by rw [eT]) ?_
    rw [hL]
