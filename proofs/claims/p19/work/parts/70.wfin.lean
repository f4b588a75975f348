/-! ===== WE for every tree ===== -/
section WE
variable {X : mi_X} {d : Nat} {h0 : mi_H} {Q : mi_Z → Prop} {rt : Int} {Sx : Int → Prop} {T : Int → tr}
theorem WE_all : ∀ (m : Nat) (e : tr), (tu e).toNat = m → WE X d h0 Q rt Sx T e := by
  intro m
  induction m using Nat.strongRecOn with
  | ind m ih =>
    intro e hm σ n nd st l vs V hn hT h n0 nb sb' lb vb K
    subst hT
    obtain ⟨⟨q0, q1⟩, q2, -, c4, c5, c6, c7⟩ := V.1.2 nd hn
    obtain ⟨⟨h1, f1⟩, e1, e2⟩ := WS_wpp h
    have V1 := WV_f f1 V
    have hl := h1.2.1.1
    have hps := h1.1.1
    intro hp S fr
    have hu2 := ty_H_u S
    revert hp
    show PH X d h0 Q rt n σ
    have t1 := tu_1 (T nd)
    rcases V.2.2.1 nd hn with ht | ht | ht | ht | ht | ht | ht
    · have eT := c6 (by omega) (by omega)
      rw [ht] at eT
      have et : tbt vs (T nd) = ([105, 110, 116], vs) := by rw [eT, tbt_tn]; rfl
      have eu : tu (T nd) = 1 := by rw [eT, tu_tn]; rfl
      rw [et, eu] at K
      rw [et] at lb
      simp only [List.length_cons, List.length_nil] at lb
      refine ph_node (P := fun σ' => FW σ σ' ∧ WS Sx σ' st (l ++ [105, 110, 116]) vs) n0 (by omega) (by omega) (by omega) e1 (by omega) (by omega) (ty_Cv_m (wr_nint (d := d + 2) q0 q1 q2 ht (by show 0 ≤ mi_sF (wpp σ) 52 5; omega) (by omega)) (fun σ' q => ?_)) (fun σ' g => K σ' g.1 g.2)
      rw [q]
      have g := WS_bs (b := 116) (WS_bs (b := 110) (WS_bs (b := 105) ⟨h1, f1⟩))
      simp only [List.append_assoc] at g
      exact ⟨g.2, g.1⟩
    · have eT := c6 (by omega) (by omega)
      rw [ht] at eT
      have et : tbt vs (T nd) = ([98, 111, 111, 108], vs) := by rw [eT, tbt_tn]; rfl
      have eu : tu (T nd) = 1 := by rw [eT, tu_tn]; rfl
      rw [et, eu] at K
      rw [et] at lb
      simp only [List.length_cons, List.length_nil] at lb
      refine ph_node (P := fun σ' => FW σ σ' ∧ WS Sx σ' st (l ++ [98, 111, 111, 108]) vs) n0 (by omega) (by omega) (by omega) e1 (by omega) (by omega) (ty_Cv_m (wr_nbool (d := d + 2) q0 q1 q2 ht (by show 0 ≤ mi_sF (wpp σ) 52 5; omega) (by omega)) (fun σ' q => ?_)) (fun σ' g => K σ' g.1 g.2)
      rw [q]
      have g := WS_bs (b := 108) (WS_bs (b := 111) (WS_bs (b := 111) (WS_bs (b := 98) ⟨h1, f1⟩)))
      simp only [List.append_assoc] at g
      exact ⟨g.2, g.1⟩
    · have eT := (c5 (Or.inl ht)).1
      have et : tbt vs (T nd) = ([39, 97 + ((ix vs nd.toNat).1 : Int)], (ix vs nd.toNat).2) := by rw [eT, tbt]
      have eu : tu (T nd) = 1 := by rw [eT, tu]
      rw [et, eu] at K
      rw [et] at lb vb
      simp only [List.length_cons, List.length_nil] at lb
      refine ph_node (P := fun σ' => FW σ σ' ∧ WS Sx σ' st (l ++ [39, 97 + ((ix vs nd.toNat).1 : Int)]) (ix vs nd.toNat).2) n0 (by omega) (by omega) (by omega) e1 (by omega) (by omega) (wr_nmark3 (d := d + 2) q0 q1 q2 ht (ty_Cv_m (WE_var (d := d + 4) V1 hn (Or.inl ht) h1 (by omega) vb) (fun σ' g => ⟨FW_tr f1 g.1, g.2⟩))) (fun σ' g => K σ' g.1 g.2)
    · have eT := (c5 (Or.inr ht)).1
      have et : tbt vs (T nd) = ([39, 97 + ((ix vs nd.toNat).1 : Int)], (ix vs nd.toNat).2) := by rw [eT, tbt]
      have eu : tu (T nd) = 1 := by rw [eT, tu]
      rw [et, eu] at K
      rw [et] at lb vb
      simp only [List.length_cons, List.length_nil] at lb
      refine ph_node (P := fun σ' => FW σ σ' ∧ WS Sx σ' st (l ++ [39, 97 + ((ix vs nd.toNat).1 : Int)]) (ix vs nd.toNat).2) n0 (by omega) (by omega) (by omega) e1 (by omega) (by omega) (wr_nmark4 (d := d + 2) q0 q1 q2 ht (ty_Cv_m (WE_var (d := d + 4) V1 hn (Or.inr ht) h1 (by omega) vb) (fun σ' g => ⟨FW_tr f1 g.1, g.2⟩))) (fun σ' g => K σ' g.1 g.2)
    · have eT := c6 (by omega) (by omega)
      rw [ht] at eT
      have b1 := bki_01 2 (T (ty_K' σ nd 0))
      have b2 := bki_01 2 (T (ty_K' σ nd 1))
      have et : tbt vs (T nd) = (wrp (brk 2 (T (ty_K' σ nd 0))) (tbt vs (T (ty_K' σ nd 0))).1 ++ ([32, 42, 32] ++ wrp (brk 2 (T (ty_K' σ nd 1))) (tbt (tbt vs (T (ty_K' σ nd 0))).2 (T (ty_K' σ nd 1))).1), (tbt (tbt vs (T (ty_K' σ nd 0))).2 (T (ty_K' σ nd 1))).2) := by rw [eT, tbt_tn]; rfl
      have eu : tu (T nd) = 1 + (tu (T (ty_K' σ nd 0)) + 2 * bki 2 (T (ty_K' σ nd 0))) + 3 + (tu (T (ty_K' σ nd 1)) + 2 * bki 2 (T (ty_K' σ nd 1))) := by rw [eT, tu_tn]; rfl
      have ta := tu_1 (T (ty_K' σ nd 0))
      have tb := tu_1 (T (ty_K' σ nd 1))
      rw [et, eu] at K
      rw [et] at lb vb
      rw [eu] at nb sb'
      dsimp only at lb
      rw [List.length_append, List.length_append] at lb
      exact WE_bin (d := d) (tx := [32, 42, 32]) (pw := fun σ => wlt (wlt (wlt σ (-32)) (-42)) (-32)) (t := 5) V hn ht (Or.inl rfl) (fun b hb => by simp at hb; omega) (by simp)
        (fun σ1 st1 l1 g => by
          have k := WS_ps (x := -32) (WS_ps (x := -42) (WS_ps (x := -32) ⟨g, sg_Af_rf⟩))
          simp only [List.append_assoc] at k
          exact k)
        (fun σ1 P a1 a2 a3 a4 H => wr_n5 (d := d + 2) a1 a2 a3 a4 H)
        (ih _ (by omega) _ rfl) (ih _ (by omega) _ rfl) h n0 nb sb' lb vb K
    · have eT := c6 (by omega) (by omega)
      rw [ht] at eT
      have b1 := bki_01 1 (T (ty_K' σ nd 0))
      have b2 := bki_01 0 (T (ty_K' σ nd 1))
      have et : tbt vs (T nd) = (wrp (brk 1 (T (ty_K' σ nd 0))) (tbt vs (T (ty_K' σ nd 0))).1 ++ ([32, 45, 62, 32] ++ wrp (brk 0 (T (ty_K' σ nd 1))) (tbt (tbt vs (T (ty_K' σ nd 0))).2 (T (ty_K' σ nd 1))).1), (tbt (tbt vs (T (ty_K' σ nd 0))).2 (T (ty_K' σ nd 1))).2) := by rw [eT, tbt_tn]; rfl
      have eu : tu (T nd) = 1 + (tu (T (ty_K' σ nd 0)) + 2 * bki 1 (T (ty_K' σ nd 0))) + 4 + (tu (T (ty_K' σ nd 1)) + 2 * bki 0 (T (ty_K' σ nd 1))) := by rw [eT, tu_tn]; rfl
      have ta := tu_1 (T (ty_K' σ nd 0))
      have tb := tu_1 (T (ty_K' σ nd 1))
      rw [et, eu] at K
      rw [et] at lb vb
      rw [eu] at nb sb'
      dsimp only at lb
      rw [List.length_append, List.length_append] at lb
      exact WE_bin (d := d) (tx := [32, 45, 62, 32]) (pw := fun σ => wlt (wlt (wlt (wlt σ (-32)) (-62)) (-45)) (-32)) (t := 6) V hn ht (Or.inr rfl) (fun b hb => by simp at hb; omega) (by simp)
        (fun σ1 st1 l1 g => by
          have k := WS_ps (x := -32) (WS_ps (x := -45) (WS_ps (x := -62) (WS_ps (x := -32) ⟨g, sg_Af_rf⟩)))
          simp only [List.append_assoc] at k
          exact k)
        (fun σ1 P a1 a2 a3 a4 H => wr_n6 (d := d + 2) a1 a2 a3 a4 H)
        (ih _ (by omega) _ rfl) (ih _ (by omega) _ rfl) h n0 nb sb' lb vb K
    · have eT := c6 (by omega) (by omega)
      rw [ht] at eT
      have b1 := bki_01 3 (T (ty_K' σ nd 0))
      have ta := tu_1 (T (ty_K' σ nd 0))
      have et : tbt vs (T nd) = ([108, 105, 115, 116] ++ ([32] ++ wrp (brk 3 (T (ty_K' σ nd 0))) (tbt vs (T (ty_K' σ nd 0))).1), (tbt vs (T (ty_K' σ nd 0))).2) := by rw [eT, tbt_tn]; rfl
      have eu : tu (T nd) = 1 + 1 + (tu (T (ty_K' σ nd 0)) + 2 * bki 3 (T (ty_K' σ nd 0))) := by rw [eT, tu_tn]; rfl
      have S0 : Sx (ty_K' σ nd 0) := kid_T V.1 hn (by omega) (by rw [ht]; decide) (by omega)
      have k0 := (V.1.2 _ S0).1
      have k1 : ty_K' σ nd 1 = 0 := (c7 1 (by omega) (by omega)).2 (by rw [ht]; decide)
      have k2 : ty_K' σ nd 2 = 0 := (c7 2 (by omega) (by omega)).2 (by rw [ht]; decide)
      rw [et, eu] at K
      rw [et] at lb vb
      rw [eu] at nb sb'
      dsimp only at lb vb
      simp only [List.length_append, List.length_cons, List.length_nil] at lb
      have pl := pst_len (w := 3) (e := T (ty_K' σ nd 0)) (nd := ty_K' σ nd 0)
      refine ph_node (P := fun σ' => FW σ σ' ∧ WS Sx σ' ((st ++ pst 3 (T (ty_K' σ nd 0)) (ty_K' σ nd 0)) ++ [-32]) (l ++ [108, 105, 115, 116]) vs) n0 (by omega) (by omega) (by omega) e1 (by omega) (by omega) (wr_n9 (d := d + 2) q0 q1 q2 ht (wr_named (d := d + 3) q0 q1 q2 (fun w w0 w1 => V1.2.1.2.1 nd w q0 q1 w0 w1) k0.1 (by show ty_K' σ nd 0 < 1000; omega) k1 k2 V1.2.2.2 (by show 0 ≤ mi_sF (wpp σ) 52 5; omega) (by omega) ?_)) (fun σ' g => ?_)
      · have g := WS_bs (b := 116) (WS_bs (b := 115) (WS_bs (b := 105) (WS_bs (b := 108) ⟨h1, f1⟩)))
        simp only [List.append_assoc] at g
        have W1 := wr_partT (X := X) (d := d + 2) (n := nd) (w := 0) (WV_f g.2 V) hn (by
          rw [(FW_K g.2 nd 0).2]
          omega) g.1 (by omega)
        refine ty_Cv_m W1 (fun σ2 k => ?_)
        obtain ⟨k3, k4⟩ := k
        rw [(FW_K g.2 nd 0).1, (FW_K g.2 nd 0).2, ht] at k3
        have k5 := k3.1.1
        rw [List.length_append] at k5
        have k6 := WS_ps (x := -32) ⟨k3, FW_tr g.2 k4⟩
        have pl2 : ((pst (pos 9 0) (T (ty_K' σ nd 0)) (ty_K' σ nd 0)).length : Int) = 1 + 2 * bki 3 (T (ty_K' σ nd 0)) := pl
        exact ⟨⟨by omega, by omega⟩, k6.2, k6.1⟩
      · obtain ⟨F2, w2⟩ := g
        refine PH_bytes [32] _ σ' _ w2 (fun b hb => by simp at hb; omega) (by omega) (by simp only [List.length_singleton]; omega) (by simp only [List.length_append, List.length_singleton]; omega) (by simp only [List.length_append, List.length_singleton, List.length_cons, List.length_nil]; omega) (fun σ4 F4 w4 => ?_)
        have F5 := FW_tr F2 F4
        rw [List.length_singleton]
        refine WE_part (ih _ (by omega) _ rfl) (WV_f F5 V) S0 rfl w4 (by omega) (by omega) (by omega) (by simp only [List.length_append, List.length_singleton, List.length_cons, List.length_nil]; omega) vb (fun σ5 F6 w5 => ?_)
        simp only [List.append_assoc] at w5
        have := K σ5 (FW_tr F5 F6) (by simpa only [List.append_assoc] using w5)
        rw [show n + 1 + ((1 : Nat) : Int) + (tu (T (ty_K' σ nd 0)) + 2 * bki 3 (T (ty_K' σ nd 0))) = n + (1 + 1 + (tu (T (ty_K' σ nd 0)) + 2 * bki 3 (T (ty_K' σ nd 0)))) by omega]
        exact this
end WE
