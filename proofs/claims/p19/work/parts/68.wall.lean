/-! ===== every tree's text is written, by induction ===== -/
theorem tbt_len : ∀ (e : tr) (vs : List Nat), vs.length ≤ (tbt vs e).2.length
  | .var v, vs => by
    rw [tbt]
    unfold ix
    split
    · exact Nat.le_refl _
    · rw [List.length_append]; omega
  | .add (.num t) (.add a (.add b c)), vs => by
    have ha := tbt_len a vs
    have hb := tbt_len b (tbt vs a).2
    rw [tbt]
    split
    · exact Nat.le_trans ha hb
    · split
      · exact Nat.le_trans ha hb
      · split
        · exact ha
        · split <;> exact Nat.le_refl _
  | .num _, vs => by simp [tbt]
  | .mul _ _, vs => by simp [tbt]
  | .add (.var _) _, vs => by simp [tbt]
  | .add (.add _ _) _, vs => by simp [tbt]
  | .add (.mul _ _) _, vs => by simp [tbt]
  | .add (.num _) (.num _), vs => by simp [tbt]
  | .add (.num _) (.var _), vs => by simp [tbt]
  | .add (.num _) (.mul _ _), vs => by simp [tbt]
  | .add (.num _) (.add _ (.num _)), vs => by simp [tbt]
  | .add (.num _) (.add _ (.var _)), vs => by simp [tbt]
  | .add (.num _) (.add _ (.mul _ _)), vs => by simp [tbt]
theorem pst_len {w : Nat} {e : tr} {nd : Int} : ((pst w e nd).length : Int) = 1 + 2 * bki w e := by
  unfold pst bki
  split <;> rfl
theorem FW_K {σ σ' : mi_Sg} (F : FW σ σ') (n w : Int) : ty_K' σ' n w = ty_K' σ n w ∧ mi_sA σ' 10 n = mi_sA σ 10 n := by
  unfold ty_K' ty_k
  rw [sg_Af_Ak F (k := 10) (by decide), sg_Af_Ak F (k := 11) (by decide), sg_Af_Ak F (k := 12) (by decide)]
  exact ⟨rfl, rfl⟩
section WE
variable {X : mi_X} {d : Nat} {h0 : mi_H} {Q : mi_Z → Prop} {rt : Int} {Sx : Int → Prop} {T : Int → tr}
theorem WE_bin {tx : List Int} {pw : mi_Sg → mi_Sg} {σ : mi_Sg} {n nd t : Int} {st l : List Int} {vs : List Nat} (V : WV Sx T σ) (hn : Sx nd) (ht : mi_sA σ 10 nd = t) (htt : t = 5 ∨ t = 6) (hx : ∀ b ∈ tx, 0 < b ∧ b < 128) (hx4 : tx.length ≤ 4)
    (hpw : ∀ σ1 st1 l1, WS Sx σ1 st1 l1 vs → WS Sx (pw σ1) (st1 ++ tx.reverse.map (fun b => -b)) l1 vs ∧ FW σ1 (pw σ1))
    (hput : ∀ (σ1 : mi_Sg) (P : mi_Sg → Prop), 0 < nd → nd < mi_sF σ1 9 8 → mi_sA σ1 12 nd = nd → mi_sA σ1 10 nd = t → ty_Cv X (d + 6) mi_M155 [(0, .ref 52), (1, .int (Int32.ofInt nd)), (2, .int (Int32.ofInt 1))] σ1 (fun σ2 => (0 ≤ mi_sF σ2 52 4 ∧ mi_sF σ2 52 4 + 4 ≤ 1024) ∧ ty_Cv X (d + 6) mi_M155 [(0, .ref 52), (1, .int (Int32.ofInt nd)), (2, .int (Int32.ofInt 0))] (pw σ2) P) → ty_Cv X (d + 7) mi_M163 [(0, .ref 52), (1, .int (Int32.ofInt nd))] σ1 P)
    (IA : WE X d h0 Q rt Sx T (T (ty_K' σ nd 0))) (IB : WE X d h0 Q rt Sx T (T (ty_K' σ nd 1)))
    (h : WS Sx σ (st ++ [nd]) l vs) (n0 : 0 ≤ n)
    (nb : n + (1 + (tu (T (ty_K' σ nd 0)) + 2 * bki (pos t 0) (T (ty_K' σ nd 0))) + tx.length + (tu (T (ty_K' σ nd 1)) + 2 * bki (pos t 1) (T (ty_K' σ nd 1)))) ≤ 1024)
    (sb' : st.length + (1 + (tu (T (ty_K' σ nd 0)) + 2 * bki (pos t 0) (T (ty_K' σ nd 0))) + tx.length + (tu (T (ty_K' σ nd 1)) + 2 * bki (pos t 1) (T (ty_K' σ nd 1)))) ≤ 1020)
    (lb : l.length + ((wrp (brk (pos t 0) (T (ty_K' σ nd 0))) (tbt vs (T (ty_K' σ nd 0))).1).length + (tx.length + (wrp (brk (pos t 1) (T (ty_K' σ nd 1))) (tbt (tbt vs (T (ty_K' σ nd 0))).2 (T (ty_K' σ nd 1))).1).length)) ≤ 400)
    (vb : (tbt (tbt vs (T (ty_K' σ nd 0))).2 (T (ty_K' σ nd 1))).2.length ≤ 26)
    (K : ∀ σ', FW σ σ' → WS Sx σ' st (l ++ (wrp (brk (pos t 0) (T (ty_K' σ nd 0))) (tbt vs (T (ty_K' σ nd 0))).1 ++ (tx ++ wrp (brk (pos t 1) (T (ty_K' σ nd 1))) (tbt (tbt vs (T (ty_K' σ nd 0))).2 (T (ty_K' σ nd 1))).1))) (tbt (tbt vs (T (ty_K' σ nd 0))).2 (T (ty_K' σ nd 1))).2 → PH X d h0 Q rt (n + (1 + (tu (T (ty_K' σ nd 0)) + 2 * bki (pos t 0) (T (ty_K' σ nd 0))) + tx.length + (tu (T (ty_K' σ nd 1)) + 2 * bki (pos t 1) (T (ty_K' σ nd 1))))) σ') : PH X d h0 Q rt n σ := by
  obtain ⟨⟨q0, q1⟩, q2, -⟩ := V.1.2 nd hn
  have S0 : Sx (ty_K' σ nd 0) := kid_T V.1 hn (by omega) (by rw [ht]; unfold ar; rw [if_pos htt]; omega) (by omega)
  have S1 : Sx (ty_K' σ nd 1) := kid_T V.1 hn (by omega) (by rw [ht]; unfold ar; rw [if_pos htt]; omega) (by omega)
  have hu := (V.1.2 nd hn).1
  have ta := tu_1 (T (ty_K' σ nd 0))
  have tb := tu_1 (T (ty_K' σ nd 1))
  have ba := bki_01 (pos t 0) (T (ty_K' σ nd 0))
  have bb := bki_01 (pos t 1) (T (ty_K' σ nd 1))
  have va := tbt_len (T (ty_K' σ nd 1)) (tbt vs (T (ty_K' σ nd 0))).2
  obtain ⟨⟨h1, f1⟩, e1, e2⟩ := WS_wpp h
  have V1 := WV_f f1 V
  generalize hA : ty_K' σ nd 0 = ka at *
  generalize hB : ty_K' σ nd 1 = kb' at *
  have pla := pst_len (w := pos t 0) (e := T ka) (nd := ka)
  have plb := pst_len (w := pos t 1) (e := T kb') (nd := kb')
  intro hp S fr
  have hu2 := ty_H_u S
  revert hp
  show PH X d h0 Q rt n σ
  refine ph_node (P := fun σ' => FW σ σ' ∧ WS Sx σ' (((st ++ pst (pos t 1) (T kb') kb') ++ tx.reverse.map (fun b => -b)) ++ pst (pos t 0) (T ka) ka) l vs) n0 (by omega) (by omega) (by omega) e1 (by omega) (by omega) ?_ ?_
  · refine hput (wpp σ) _ q0 q1 q2 ht ?_
    have W1 := wr_partT (X := X) (d := d + 3) (w := 1) V1 hn (by
      show (mi_sA σ 10 nd = 5 ∧ _) ∨ (mi_sA σ 10 nd = 6 ∧ _) ∨ _
      omega) h1 (by omega)
    refine ty_Cv_m W1 (fun σ1 g => ?_)
    obtain ⟨g1, g2⟩ := g
    rw [(FW_K f1 nd 1).1, (FW_K f1 nd 1).2, hB, ht] at g1
    obtain ⟨g3, g4⟩ := hpw σ1 _ _ g1
    have F2 := FW_tr f1 g2
    have F3 := FW_tr F2 g4
    have hg := g1.1.1
    rw [List.length_append] at hg
    refine ⟨⟨by omega, by omega⟩, ?_⟩
    have W2 := wr_partT (X := X) (d := d + 3) (w := 0) (WV_f F3 V) hn (by
      rw [(FW_K F3 nd 0).2]
      omega) g3 (by simp only [List.length_append, List.length_map, List.length_reverse]; omega)
    refine ty_Cv_m W2 (fun σ2 k => ?_)
    obtain ⟨k1, k2⟩ := k
    rw [(FW_K F3 nd 0).1, (FW_K F3 nd 0).2, hA, ht] at k1
    exact ⟨FW_tr F3 k2, k1⟩
  · intro σ2 g
    obtain ⟨F2, w2⟩ := g
    refine WE_part IA (WV_f F2 V) S0 rfl w2 (by omega) (by omega) (by simp only [List.length_append, List.length_map, List.length_reverse]; omega) (by omega) (by omega) (fun σ3 F3 w3 => ?_)
    refine PH_bytes tx _ σ3 _ w3 hx (by omega) (by omega) (by rw [List.length_append]; omega) (by rw [List.length_append]; omega) (fun σ4 F4 w4 => ?_)
    have F5 := FW_tr (FW_tr F2 F3) F4
    refine WE_part IB (WV_f F5 V) S1 rfl w4 (by omega) (by omega) (by omega) (by simp only [List.length_append]; omega) vb (fun σ5 F6 w5 => ?_)
    rw [List.append_assoc, List.append_assoc] at w5
    have := K σ5 (FW_tr F5 F6) w5
    rw [show n + 1 + (tu (T ka) + 2 * bki (pos t 0) (T ka)) + (tx.length : Int) + (tu (T kb') + 2 * bki (pos t 1) (T kb')) = n + (1 + (tu (T ka) + 2 * bki (pos t 0) (T ka)) + tx.length + (tu (T kb') + 2 * bki (pos t 1) (T kb'))) by omega]
    exact this
end WE
