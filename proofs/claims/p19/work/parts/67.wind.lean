/-! ===== every tree's text is written ===== -/
def WV (Sx : Int → Prop) (T : Int → tr) (σ : mi_Sg) : Prop := ty_T σ Sx T ∧ ty_Z σ ∧ tg7 σ Sx ∧ kb σ
theorem WV_f {Sx : Int → Prop} {T : Int → tr} {σ σ' : mi_Sg} (F : FW σ σ') (V : WV Sx T σ) : WV Sx T σ' := by
  obtain ⟨v1, v2, v3, v4⟩ := V
  have a10 := sg_Af_Ak F (k := 10) (by decide)
  have a11 := sg_Af_Ak F (k := 11) (by decide)
  have a12 := sg_Af_Ak F (k := 12) (by decide)
  have a13 := sg_Af_Ak F (k := 13) (by decide)
  have a19 := sg_Af_Ak F (k := 19) (by decide)
  have f8 := F.2.2 9 8 (by decide)
  have f11 := F.2.2 9 11 (by decide)
  have hE : ∀ i, mi_sE σ' 18 i = mi_sE σ 18 i := fun i => by unfold mi_sE; rw [F.1]
  refine ⟨?_, ?_, ?_, ?_⟩
  · unfold ty_T ty_K' ty_k at v1 ⊢
    rw [a10, a11, a12, f8]
    exact v1
  · unfold ty_Z ty_k at v2 ⊢
    rw [a10, a11, a13, f8, f11]
    exact v2
  · unfold tg7 at v3 ⊢
    rw [a10]
    exact v3
  · unfold kb at v4 ⊢
    rw [F.2.2 17 12 (by decide), hE, hE, hE, a19]
    exact v4
/-- what laterPart pushes -/
def pst (w : Nat) (e : tr) (nd : Int) : List Int := if brk w e = true then [-41, nd, -40] else [nd]
section WE
variable {X : mi_X} {d : Nat} {h0 : mi_H} {Q : mi_Z → Prop} {rt : Int} {Sx : Int → Prop} {T : Int → tr}
theorem wr_partT {σ : mi_Sg} {n w : Int} {st l : List Int} {vs : List Nat} (V : WV Sx T σ) (hn : Sx n) (hw : (mi_sA σ 10 n = 5 ∧ (w = 0 ∨ w = 1)) ∨ (mi_sA σ 10 n = 6 ∧ (w = 0 ∨ w = 1)) ∨ (mi_sA σ 10 n = 9 ∧ w = 0)) (h : WS Sx σ st l vs) (hs : st.length + 3 ≤ 1024) : ty_Cv X (d + 3) mi_M155 [(0, .ref 52), (1, .int (Int32.ofInt n)), (2, .int (Int32.ofInt w))] σ (fun σ' => WS Sx σ' (st ++ pst (pos (mi_sA σ 10 n) w) (T (ty_K' σ n w)) (ty_K' σ n w)) l vs ∧ FW σ σ') := by
  have I := iw_T (X := X) (d := d) V.1 V.2.1 V.2.2.1 hn hw
  obtain ⟨⟨n0, n1⟩, n2, -⟩ := V.1.2 n hn
  have hk := V.2.1.2.1 n w n0 n1 (by omega) (by omega)
  have h4 := h.1.1
  unfold pst
  by_cases hb : brk (pos (mi_sA σ 10 n) w) (T (ty_K' σ n w)) = true
  · rw [if_pos hb] at I ⊢
    refine ty_Cv_m (wr_part1 (d := d) n0 n1 n2 (by omega) hk (by omega) (by omega) I) (fun σ' e => ?_)
    rw [e]
    obtain ⟨g1, f1⟩ := WS_wlt (x := -41) h
    obtain ⟨g2, f2⟩ := WS_wlt (x := ty_K' σ n w) g1
    obtain ⟨g3, f3⟩ := WS_wlt (x := -40) g2
    rw [List.append_assoc, List.append_assoc] at g3
    exact ⟨g3, FW_tr (FW_tr f1 f2) f3⟩
  · rw [if_neg hb] at I ⊢
    refine ty_Cv_m (wr_part0 (d := d) n0 n1 n2 (by omega) hk (by omega) (by omega) I) (fun σ' e => ?_)
    rw [e]
    exact WS_wlt h
def WE (X : mi_X) (d : Nat) (h0 : mi_H) (Q : mi_Z → Prop) (rt : Int) (Sx : Int → Prop) (T : Int → tr) (e : tr) : Prop := ∀ (σ : mi_Sg) (n nd : Int) (st l : List Int) (vs : List Nat), WV Sx T σ → Sx nd → T nd = e → WS Sx σ (st ++ [nd]) l vs → 0 ≤ n → n + tu e ≤ 1024 → st.length + tu e ≤ 1020 → l.length + (tbt vs e).1.length ≤ 400 → (tbt vs e).2.length ≤ 26 → (∀ σ', FW σ σ' → WS Sx σ' st (l ++ (tbt vs e).1) (tbt vs e).2 → PH X d h0 Q rt (n + tu e) σ') → PH X d h0 Q rt n σ
theorem WE_part {e : tr} {w : Nat} (hE : WE X d h0 Q rt Sx T e) {σ : mi_Sg} {n nd : Int} {st l : List Int} {vs : List Nat} (V : WV Sx T σ) (hn : Sx nd) (hT : T nd = e) (h : WS Sx σ (st ++ pst w e nd) l vs) (n0 : 0 ≤ n) (n1 : n + (tu e + 2 * bki w e) ≤ 1024) (s1 : st.length + (tu e + 2 * bki w e) ≤ 1020) (l1 : l.length + (wrp (brk w e) (tbt vs e).1).length ≤ 400) (v1 : (tbt vs e).2.length ≤ 26) (K : ∀ σ', FW σ σ' → WS Sx σ' st (l ++ wrp (brk w e) (tbt vs e).1) (tbt vs e).2 → PH X d h0 Q rt (n + (tu e + 2 * bki w e)) σ') : PH X d h0 Q rt n σ := by
  have t1 := tu_1 e
  unfold pst at h
  unfold bki at *
  unfold wrp at *
  by_cases hb : brk w e = true
  · rw [if_pos hb] at h n1 s1 l1 K
    simp only [if_pos hb] at K
    rw [List.length_cons, List.length_append, List.length_singleton] at l1
    have h' : WS Sx σ ((st ++ [-41, nd]) ++ (([40] : List Int).reverse.map (fun b => -b))) l vs := by
      rw [List.append_assoc]
      exact h
    refine PH_bytes [40] n σ l h' (fun b hb => by simp at hb; omega) n0 (by simp only [List.length_singleton]; omega) (by rw [List.length_append]; simp only [List.length_cons, List.length_nil]; omega) (by rw [List.length_singleton]; omega) (fun σ1 F1 w1 => ?_)
    rw [List.length_singleton] at *
    have w1' : WS Sx σ1 ((st ++ [-41]) ++ [nd]) (l ++ [40]) vs := by
      rw [List.append_assoc]
      exact w1
    refine hE σ1 _ nd _ _ vs (WV_f F1 V) hn hT w1' (by omega) (by omega) (by rw [List.length_append, List.length_singleton]; omega) (by rw [List.length_append, List.length_singleton]; omega) v1 (fun σ2 F2 w2 => ?_)
    have w2' : WS Sx σ2 (st ++ (([41] : List Int).reverse.map (fun b => -b))) (l ++ [40] ++ (tbt vs e).1) (tbt vs e).2 := w2
    refine PH_bytes [41] _ σ2 _ w2' (fun b hb => by simp at hb; omega) (by omega) (by simp only [List.length_singleton]; omega) (by simp only [List.length_singleton]; omega) (by simp only [List.length_append, List.length_singleton]; omega) (fun σ3 F3 w3 => ?_)
    rw [List.length_singleton]
    have := K σ3 (FW_tr (FW_tr F1 F2) F3) (by
      rw [show l ++ 40 :: ((tbt vs e).1 ++ [41]) = l ++ [40] ++ (tbt vs e).1 ++ [41] by simp]
      exact w3)
    rw [show n + ((1 : Nat) : Int) + tu e + ((1 : Nat) : Int) = n + (tu e + 2 * 1) by omega]
    exact this
  · rw [if_neg hb] at h n1 s1 l1 K
    simp only [if_neg hb] at K
    refine hE σ n nd st l vs V hn hT h n0 (by omega) (by omega) l1 v1 (fun σ' F w => ?_)
    have := K σ' F w
    rw [show n + (tu e + 2 * 0) = n + tu e by omega] at this
    exact this
end WE
