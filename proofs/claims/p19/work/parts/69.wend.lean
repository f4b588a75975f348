/-! ===== every tree's text is written: the whole ===== -/
section WE
variable {X : mi_X} {d : Nat} {h0 : mi_H} {Q : mi_Z → Prop} {rt : Int} {Sx : Int → Prop} {T : Int → tr}
theorem WS_bs {σ : mi_Sg} {st l : List Int} {vs : List Nat} {b : Int} {σ0 : mi_Sg} (h : WS Sx σ st l vs ∧ FW σ0 σ) : WS Sx (wpb σ b) st (l ++ [b]) vs ∧ FW σ0 (wpb σ b) := ⟨(WS_wpb h.1).1, FW_tr h.2 (WS_wpb h.1).2⟩
theorem WS_ps {σ : mi_Sg} {st l : List Int} {vs : List Nat} {x : Int} {σ0 : mi_Sg} (h : WS Sx σ st l vs ∧ FW σ0 σ) : WS Sx (wlt σ x) (st ++ [x]) l vs ∧ FW σ0 (wlt σ x) := ⟨(WS_wlt h.1).1, FW_tr h.2 (WS_wlt h.1).2⟩
/-- a mark -/
theorem WE_var {σ : mi_Sg} {st l : List Int} {vs : List Nat} {nd : Int} (V : WV Sx T σ) (hn : Sx nd) (ht : mi_sA σ 10 nd = 3 ∨ mi_sA σ 10 nd = 4) (h : WS Sx σ st l vs) (l1 : l.length + 2 ≤ 400) (v1 : (ix vs nd.toNat).2.length ≤ 26) : ty_Cv X (d + 2) mi_M161 [(0, .ref 52), (1, .int (Int32.ofInt nd))] σ (fun σ' => FW σ σ' ∧ WS Sx σ' st (l ++ [39, 97 + ((ix vs nd.toNat).1 : Int)]) (ix vs nd.toNat).2) := by
  obtain ⟨⟨q0, q1⟩, q2, -⟩ := V.1.2 nd hn
  have hl := h.2.1.1
  have hm := h.2.2.1
  have hN := h.2.2.2 nd hn ht
  by_cases hv : nd.toNat ∈ vs
  · rw [if_pos hv] at hN
    have hi := List.idxOf_lt_length_of_mem hv
    have ei : ix vs nd.toNat = (vs.idxOf nd.toNat, vs) := if_pos hv
    rw [ei] at v1 ⊢
    dsimp only at v1 ⊢
    refine ty_Cv_m (wr_mark1 (d := d) (v := (vs.idxOf nd.toNat : Int) + 1) q0 q1 q2 (by omega) (by omega) hN (by omega) (by omega)) (fun σ' e => ?_)
    rw [e]
    have g := WS_bs (b := 97 + ((vs.idxOf nd.toNat : Int) + 1 - 1)) (WS_bs (b := 39) ⟨h, sg_Af_rf⟩)
    rw [List.append_assoc, show (97 : Int) + ((vs.idxOf nd.toNat : Int) + 1 - 1) = 97 + (vs.idxOf nd.toNat : Int) by omega] at g
    rw [show (97 : Int) + ((vs.idxOf nd.toNat : Int) + 1 - 1) = 97 + (vs.idxOf nd.toNat : Int) by omega]
    exact ⟨g.2, g.1⟩
  · rw [if_neg hv] at hN
    have ei : ix vs nd.toNat = (vs.length, vs ++ [nd.toNat]) := if_neg hv
    rw [ei] at v1 ⊢
    dsimp only at v1 ⊢
    rw [List.length_append, List.length_singleton] at v1
    refine ty_Cv_m (wr_mark0 (d := d) q0 q1 q2 (by omega) (by omega) hN (by omega) (by omega)) (fun σ' e => ?_)
    rw [e]
    have hF : FW σ (mi_uA (mi_uF σ 52 6 (mi_sF σ 52 6 + 1)) 14 nd (mi_sF σ 52 6 + 1)) := sg_Af_A (sg_Af_F sg_Af_rf (by decide)) (by decide)
    have hW : WS Sx (mi_uA (mi_uF σ 52 6 (mi_sF σ 52 6 + 1)) 14 nd (mi_sF σ 52 6 + 1)) st l (vs ++ [nd.toNat]) := by
      refine ⟨rwl_keep h.1 rfl (fun i => ?_), rwl_keep h.2.1 rfl (fun i => ?_), ?_, fun v hv1 hv2 => ?_⟩
      · rw [mi_AA, if_neg (fun w => absurd w.1 (by decide))]; rfl
      · rw [mi_AA, if_neg (fun w => absurd w.1 (by decide))]; rfl
      · show mi_sF σ 52 6 + 1 = _
        rw [hm, List.length_append, List.length_singleton]
        omega
      · have h10 : mi_sA (mi_uA (mi_uF σ 52 6 (mi_sF σ 52 6 + 1)) 14 nd (mi_sF σ 52 6 + 1)) 10 v = mi_sA σ 10 v := hF.2.1 10 v (by decide)
        rw [h10] at hv2
        have hvp := (V.1.2 v hv1).1
        rw [mi_AA]
        by_cases q : v = nd
        · rw [if_pos ⟨rfl, q⟩, q, if_pos (by simp), hm, List.idxOf_append, if_neg hv]
          simp
        · rw [if_neg (fun w => q w.2)]
          have h14 := h.2.2.2 v hv1 hv2
          have hne : v.toNat ≠ nd.toNat := by omega
          show mi_sA σ 14 v = _
          rw [h14]
          by_cases m : v.toNat ∈ vs
          · rw [if_pos m, if_pos (by simp [m]), List.idxOf_append, if_pos m]
          · rw [if_neg m, if_neg (by simp [m, hne])]
    have g := WS_bs (b := 97 + (mi_sF σ 52 6 + 1 - 1)) (WS_bs (b := 39) ⟨hW, hF⟩)
    rw [List.append_assoc, show (97 : Int) + (mi_sF σ 52 6 + 1 - 1) = 97 + (vs.length : Int) by omega] at g
    rw [show (97 : Int) + (mi_sF σ 52 6 + 1 - 1) = 97 + (vs.length : Int) by omega]
    exact ⟨g.2, g.1⟩
end WE
