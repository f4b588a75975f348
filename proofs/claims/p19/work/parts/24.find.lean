/-! ===== Types: the forest of links ===== -/
/-- only the rows of ks differ -/
def mi_Ag (ks : List Nat) (σ σ' : mi_Sg) : Prop := σ'.1 = σ.1 ∧ σ'.2.2 = σ.2.2 ∧ ∀ (k : Nat) (i : Int), k ∉ ks → mi_sA σ' k i = mi_sA σ k i
theorem mi_Ag_rf {ks : List Nat} {σ : mi_Sg} : mi_Ag ks σ σ := ⟨rfl, rfl, fun _ _ _ => rfl⟩
theorem mi_Ag_tr {ks : List Nat} {σ σ1 σ2 : mi_Sg} (a : mi_Ag ks σ σ1) (b : mi_Ag ks σ1 σ2) : mi_Ag ks σ σ2 := ⟨b.1.trans a.1, b.2.1.trans a.2.1, fun k i hk => (b.2.2 k i hk).trans (a.2.2 k i hk)⟩
theorem mi_Ag_F {ks : List Nat} {σ σ' : mi_Sg} (a : mi_Ag ks σ σ') (k j : Nat) : mi_sF σ' k j = mi_sF σ k j := by unfold mi_sF; rw [a.1]
theorem mi_Ag_u {ks : List Nat} {σ : mi_Sg} {k : Nat} (i x : Int) (hk : k ∈ ks) : mi_Ag ks σ (mi_uA σ k i x) := ⟨rfl, rfl, fun k' i' hk' => by
  rw [mi_AA, if_neg (fun (e : k' = k ∧ i' = i) => hk' (e.1 ▸ hk))]⟩
/-- every node's way of links ends at rho of it; t grows on the way -/
def ty_N (L ρ t : Int → Int) (u n : Int) : Prop := (0 < L n ∧ L n < u) ∧ ρ (L n) = ρ n ∧ (0 < ρ n ∧ ρ n < u) ∧ (L n = n → ρ n = n) ∧ (ρ n = n → L n = n) ∧ (L n ≠ n → t n < t (L n)) ∧ (0 ≤ t n ∧ t n < u) ∧ t n ≤ t (ρ n) ∧ ρ (ρ n) = ρ n
/-- what is kept, and what stands at the beginning, is linked among itself -/
def ty_K (L ρ : Int → Int) (f : Int) : Prop := 13 ≤ f ∧ ∀ n : Int, 0 < n → (n < f → L n < f ∧ ρ n < f) ∧ (n < 13 → L n < 13 ∧ ρ n < 13)
theorem ty_K_set {L ρ : Int → Int} {f a : Int} (K : ty_K L ρ f) : ty_K (fun i => if i = a then ρ a else L i) ρ f := by
  refine ⟨K.1, fun n h0 => ⟨fun h => ⟨?_, ((K.2 n h0).1 h).2⟩, fun h => ⟨?_, ((K.2 n h0).2 h).2⟩⟩⟩
  · dsimp only
    split
    next e => subst e; exact ((K.2 n h0).1 h).2
    next e => exact ((K.2 n h0).1 h).1
  · dsimp only
    split
    next e => subst e; exact ((K.2 n h0).2 h).2
    next e => exact ((K.2 n h0).2 h).1
def ty_V (σ : mi_Sg) (ρ t : Int → Int) : Prop := 2 < mi_sF σ 9 8 ∧ mi_sF σ 9 8 ≤ 512 ∧ ρ 0 = 0 ∧ (∀ n : Int, 0 < n → n < mi_sF σ 9 8 → ty_N (mi_sA σ 12) ρ t (mi_sF σ 9 8) n) ∧ mi_sF σ 9 9 ≤ mi_sF σ 9 8 ∧ ty_K (mi_sA σ 12) ρ (mi_sF σ 9 9)
theorem ty_V_set {σ : mi_Sg} {ρ t : Int → Int} (V : ty_V σ ρ t) {a : Int} (h0 : 0 < a) (h1 : a < mi_sF σ 9 8) (hne : a ≠ ρ a) : ty_V (mi_uA σ 12 a (ρ a)) ρ t := by
  obtain ⟨v0, v1, v2, v3, v4, v5⟩ := V
  refine ⟨v0, v1, v2, fun n hn0 hn1 => ?_, v4, ?_⟩
  case refine_2 =>
    have := ty_K_set (a := a) v5
    refine ⟨this.1, fun n h0 => ?_⟩
    have t2 := this.2 n h0
    dsimp only at t2
    have hL : mi_sA (mi_uA σ 12 a (ρ a)) 12 n = if n = a then ρ a else mi_sA σ 12 n := by
      rw [mi_AA]
      by_cases e : n = a
      · rw [if_pos ⟨rfl, e⟩, if_pos e]
      · rw [if_neg (fun q => e q.2), if_neg e]
    rw [hL]
    exact t2
  have hu : mi_sF (mi_uA σ 12 a (ρ a)) 9 8 = mi_sF σ 9 8 := rfl
  rw [hu] at hn1 ⊢
  have N := v3 n hn0 hn1
  by_cases e : n = a
  · subst e
    have hL : mi_sA (mi_uA σ 12 n (ρ n)) 12 n = ρ n := by rw [mi_AA, if_pos ⟨rfl, rfl⟩]
    unfold ty_N at N ⊢
    rw [hL]
    obtain ⟨g1, g2, g3, g4, g5, g6, g7, g8, g9⟩ := N
    have hn : mi_sA σ 12 n ≠ n := fun q => hne (g4 q).symm
    have M := v3 _ g1.1 g1.2
    unfold ty_N at M
    obtain ⟨-, -, -, -, -, -, -, m8, -⟩ := M
    have g6' := g6 hn
    rw [g2] at m8
    exact ⟨g3, g9, g3, fun q => q, fun q => q, fun _ => by omega, g7, g8, g9⟩
  · have hL : mi_sA (mi_uA σ 12 a (ρ a)) 12 n = mi_sA σ 12 n := by rw [mi_AA, if_neg (fun q => e q.2)]
    unfold ty_N at N ⊢
    rw [hL]
    exact N
theorem ty_find_l1 {X : mi_X} {d : Nat} {h0 : mi_H} {Q : mi_Z → Prop} {σ : mi_Sg} {ρ t : Int → Int} {nd : Int} (V : ty_V σ ρ t) : ∀ (m : Nat) (e n : Int), (mi_sF σ 9 8 - n).toNat = m → 0 < e → e < mi_sF σ 9 8 → 0 ≤ n → n ≤ t e → ∀ h, mi_St h σ → (∀ n' : Int, mi_wp X d mi_M127 49 [(3, .int (Int32.ofInt n')), (2, .int (Int32.ofInt (ρ e))), (0, .ref 9), (1, .int (Int32.ofInt nd))] [] h 0 0 Q) → mi_wp X d mi_M127 18 [(3, .int (Int32.ofInt n)), (2, .int (Int32.ofInt e)), (0, .ref 9), (1, .int (Int32.ofInt nd))] [] h 0 0 Q := by
  intro m
  induction m using Nat.strongRecOn with
  | ind m ih =>
    intro e n hm he0 he1 hn0 hn1 h S kx
    obtain ⟨⟨g1, g1b⟩, g2, g3, g4, g5, g6, ⟨g7, g7b⟩, g8, g9⟩ := V.2.2.2.1 e he0 he1
    have u5 := V.2.1
    refine mi_wp_p (pc' := 19) (st' := [.int (Int32.ofInt n)]) rfl rfl rfl ?_
    refine mi_wp_p (pc' := 20) (st' := [.ref 9, .int (Int32.ofInt n)]) rfl rfl rfl ?_
    refine mi_s_gf (x := mi_sF σ 9 8) S rfl rfl rfl (List.mem_of_getElem? (i := 6) rfl) rfl ?_
    refine mi_s_if2 (t := 49) rfl rfl rfl (by unfold mi_R; omega) (by unfold mi_R; omega) (fun hc_ => absurd (show (mi_sF σ 9 8) ≤ n from hc_) (by omega)) (fun _ => ?_)
    refine mi_wp_p (pc' := 27) (st' := [.ref 9]) rfl rfl rfl ?_
    refine mi_s_gr S rfl rfl rfl (List.mem_of_getElem? (i := 18) rfl) ?_
    refine mi_wp_p (pc' := 31) (st' := [.int (Int32.ofInt e), .ref 12]) rfl rfl rfl ?_
    refine mi_s_ald (x := mi_sA σ 12 e) S rfl rfl (List.mem_of_getElem? (i := 6) rfl) (by decide) (by omega) (by omega) rfl ?_
    refine mi_wp_p (pc' := 33) (st' := [.int (Int32.ofInt e), .int (Int32.ofInt (mi_sA σ 12 e))]) rfl rfl rfl ?_
    refine mi_s_if2 (t := 49) rfl rfl rfl (by unfold mi_R; omega) (by unfold mi_R; omega) ?_ ?_
    · intro (c1 : (mi_sA σ 12 e) = e)
      have hk := kx n
      rw [g4 c1] at hk
      exact hk
    · intro (c1 : ¬ ((mi_sA σ 12 e) = e))
      refine mi_wp_p (pc' := 37) (st' := [.ref 9]) rfl rfl rfl ?_
      refine mi_s_gr S rfl rfl rfl (List.mem_of_getElem? (i := 18) rfl) ?_
      refine mi_wp_p (pc' := 41) (st' := [.int (Int32.ofInt e), .ref 12]) rfl rfl rfl ?_
      refine mi_s_ald (x := mi_sA σ 12 e) S rfl rfl (List.mem_of_getElem? (i := 6) rfl) (by decide) (by omega) (by omega) rfl ?_
      refine mi_wp_p (pc' := 43) (l' := [(2, .int (Int32.ofInt (mi_sA σ 12 e))), (3, .int (Int32.ofInt n)), (0, .ref 9), (1, .int (Int32.ofInt nd))]) (st' := []) rfl rfl rfl ?_
      refine mi_s_inc (l' := [(3, .int (Int32.ofInt (n + 1))), (2, .int (Int32.ofInt (mi_sA σ 12 e))), (0, .ref 9), (1, .int (Int32.ofInt nd))]) rfl rfl rfl (by decide) rfl ?_
      refine mi_wp_p (pc' := 18) rfl rfl rfl ?_
      have g6b := g6 c1
      exact ih _ (by omega) (mi_sA σ 12 e) (n + 1) rfl g1 g1b (by omega) (by omega) h S (fun n' => by rw [g2]; exact kx n')
theorem ty_find_l2 {X : mi_X} {d : Nat} {h0 : mi_H} {σ0 : mi_Sg} {ρ t : Int → Int} {nd r : Int} : ∀ (m : Nat) (σ : mi_Sg) (a n v5 : Int), ty_V σ ρ t → mi_Ag [12] σ0 σ → (mi_sF σ 9 8 - n).toNat = m → 0 < a → a < mi_sF σ 9 8 → ρ a = r → 0 ≤ n → n ≤ t a → ∀ h, mi_St h σ → mi_Fm h0 h → mi_wp X d mi_M127 54 [(4, .int (Int32.ofInt n)), (3, .int (Int32.ofInt a)), (5, .int (Int32.ofInt v5)), (2, .int (Int32.ofInt r)), (0, .ref 9), (1, .int (Int32.ofInt nd))] [] h 0 0 (fun z => ∃ v h' σ', z = (.inl v, h', 0, 0) ∧ mi_St h' σ' ∧ mi_Fm h0 h' ∧ ∃ x, v = some (.int (Int32.ofInt x)) ∧ x = r ∧ ty_V σ' ρ t ∧ mi_Ag [12] σ0 σ') := by
  intro m
  induction m using Nat.strongRecOn with
  | ind m ih =>
    intro σ a n v5 V G hm ha0 ha1 hr hn0 hn1 h S fr
    obtain ⟨⟨g1, g1b⟩, g2, ⟨g3, g3b⟩, g4, g5, g6, ⟨g7, g7b⟩, g8, g9⟩ := V.2.2.2.1 a ha0 ha1
    have u5 := V.2.1
    rw [hr] at g3 g3b
    refine mi_wp_p (pc' := 56) (st' := [.int (Int32.ofInt n)]) rfl rfl rfl ?_
    refine mi_wp_p (pc' := 57) (st' := [.ref 9, .int (Int32.ofInt n)]) rfl rfl rfl ?_
    refine mi_s_gf (x := mi_sF σ 9 8) S rfl rfl rfl (List.mem_of_getElem? (i := 6) rfl) rfl ?_
    refine mi_s_if2 (t := 92) rfl rfl rfl (by unfold mi_R; omega) (by unfold mi_R; omega) (fun hc_ => absurd (show (mi_sF σ 9 8) ≤ n from hc_) (by omega)) (fun _ => ?_)
    refine mi_wp_p (pc' := 64) (st' := [.int (Int32.ofInt a)]) rfl rfl rfl ?_
    refine mi_wp_p (pc' := 65) (st' := [.int (Int32.ofInt r), .int (Int32.ofInt a)]) rfl rfl rfl ?_
    refine mi_s_if2 (t := 92) rfl rfl rfl (by unfold mi_R; omega) (by unfold mi_R; omega) ?_ ?_
    · intro (c2 : a = r)
      refine mi_wp_p (pc' := 93) (st' := [.int (Int32.ofInt r)]) rfl rfl rfl ?_
      exact mi_s_ret S fr rfl rfl rfl (mi_ret_i rfl) ⟨_, rfl, rfl, V, G⟩
    · intro (c2 : ¬ (a = r))
      refine mi_wp_p (pc' := 69) (st' := [.ref 9]) rfl rfl rfl ?_
      refine mi_s_gr S rfl rfl rfl (List.mem_of_getElem? (i := 18) rfl) ?_
      refine mi_wp_p (pc' := 73) (st' := [.int (Int32.ofInt a), .ref 12]) rfl rfl rfl ?_
      refine mi_s_ald (x := mi_sA σ 12 a) S rfl rfl (List.mem_of_getElem? (i := 6) rfl) (by decide) (by omega) (by omega) rfl ?_
      refine mi_wp_p (pc' := 76) (l' := [(5, .int (Int32.ofInt (mi_sA σ 12 a))), (4, .int (Int32.ofInt n)), (3, .int (Int32.ofInt a)), (2, .int (Int32.ofInt r)), (0, .ref 9), (1, .int (Int32.ofInt nd))]) (st' := []) rfl rfl rfl ?_
      refine mi_wp_p (pc' := 77) (st' := [.ref 9]) rfl rfl rfl ?_
      refine mi_s_gr S rfl rfl rfl (List.mem_of_getElem? (i := 18) rfl) ?_
      refine mi_wp_p (pc' := 81) (st' := [.int (Int32.ofInt a), .ref 12]) rfl rfl rfl ?_
      refine mi_wp_p (pc' := 82) (st' := [.int (Int32.ofInt r), .int (Int32.ofInt a), .ref 12]) rfl rfl rfl ?_
      refine mi_s_ast S rfl rfl (List.mem_of_getElem? (i := 6) rfl) (by decide) (by decide) (by omega) (by omega) ?_
      intro h3 S f
      replace fr := mi_Fm_tr fr f
      refine mi_wp_p (pc' := 85) (st' := [.int (Int32.ofInt (mi_sA σ 12 a))]) rfl rfl rfl ?_
      refine mi_wp_p (pc' := 86) (l' := [(3, .int (Int32.ofInt (mi_sA σ 12 a))), (5, .int (Int32.ofInt (mi_sA σ 12 a))), (4, .int (Int32.ofInt n)), (2, .int (Int32.ofInt r)), (0, .ref 9), (1, .int (Int32.ofInt nd))]) (st' := []) rfl rfl rfl ?_
      refine mi_s_inc (l' := [(4, .int (Int32.ofInt (n + 1))), (3, .int (Int32.ofInt (mi_sA σ 12 a))), (5, .int (Int32.ofInt (mi_sA σ 12 a))), (2, .int (Int32.ofInt r)), (0, .ref 9), (1, .int (Int32.ofInt nd))]) rfl rfl rfl (by decide) rfl ?_
      refine mi_wp_p (pc' := 54) rfl rfl rfl ?_
      have hne : a ≠ ρ a := fun q => c2 (q.trans hr)
      have g6b := g6 (fun q => hne (g4 q).symm)
      have V1 := ty_V_set V ha0 ha1 hne
      rw [hr] at V1
      have hU : mi_sF (mi_uA σ 12 a r) 9 8 = mi_sF σ 9 8 := rfl
      exact ih _ (by omega) _ (mi_sA σ 12 a) (n + 1) (mi_sA σ 12 a) V1 (mi_Ag_tr G (mi_Ag_u a r List.mem_cons_self)) rfl g1 g1b (g2.trans hr) (by omega) (by omega) _ S fr
theorem ty_find {X : mi_X} {d : Nat} {σ : mi_Sg} {ρ t : Int → Int} {nd : Int} (V : ty_V σ ρ t) (hz : 0 ≤ nd) (h1 : nd < mi_sF σ 9 8) : mi_Ci X d mi_M127 [(0, .ref 9), (1, .int (Int32.ofInt nd))] σ (fun x σ' => x = ρ nd ∧ ty_V σ' ρ t ∧ mi_Ag [12] σ σ') := by
  intro h S
  have fr := mi_Fm_rf h
  have u5 := V.2.1
  by_cases hp : 0 < nd
  · obtain ⟨⟨g1, g1b⟩, g2, ⟨g3, g3b⟩, g4, g5, g6, ⟨g7, g7b⟩, g8, g9⟩ := V.2.2.2.1 nd hp h1
    refine mi_wp_p (pc' := 1) (st' := [.int (Int32.ofInt nd)]) rfl rfl rfl ?_
    refine mi_s_if1 (t := 12) rfl rfl rfl (by unfold mi_R; omega) (fun hc_ => absurd (show nd ≤ 0 from hc_) (by omega)) (fun _ => ?_)
    refine mi_wp_p (pc' := 5) (st' := [.int (Int32.ofInt nd)]) rfl rfl rfl ?_
    refine mi_wp_p (pc' := 6) (st' := [.ref 9, .int (Int32.ofInt nd)]) rfl rfl rfl ?_
    refine mi_s_gf (x := mi_sF σ 9 8) S rfl rfl rfl (List.mem_of_getElem? (i := 6) rfl) rfl ?_
    refine mi_s_if2 (t := 14) rfl rfl rfl (by unfold mi_R; omega) (by unfold mi_R; omega) (fun _ => ?_) (fun hc_ => absurd (show nd < (mi_sF σ 9 8) by omega) hc_)
    refine mi_wp_p (pc' := 15) (st' := [.int (Int32.ofInt nd)]) rfl rfl rfl ?_
    refine mi_wp_p (pc' := 16) (l' := [(2, .int (Int32.ofInt nd)), (0, .ref 9), (1, .int (Int32.ofInt nd))]) (st' := []) rfl rfl rfl ?_
    refine mi_wp_p (pc' := 17) (st' := [.int (Int32.ofInt 0)]) rfl rfl rfl ?_
    refine mi_wp_p (pc' := 18) (l' := [(3, .int (Int32.ofInt 0)), (2, .int (Int32.ofInt nd)), (0, .ref 9), (1, .int (Int32.ofInt nd))]) (st' := []) rfl rfl rfl ?_
    refine ty_find_l1 (h0 := h) V _ nd 0 rfl hp h1 (by omega) g7 h S (fun n' => ?_)
    refine mi_wp_p (pc' := 50) (st' := [.int (Int32.ofInt nd)]) rfl rfl rfl ?_
    refine mi_wp_p (pc' := 51) (l' := [(3, .int (Int32.ofInt nd)), (2, .int (Int32.ofInt (ρ nd))), (0, .ref 9), (1, .int (Int32.ofInt nd))]) (st' := []) rfl rfl rfl ?_
    refine mi_wp_p (pc' := 52) (st' := [.int (Int32.ofInt 0)]) rfl rfl rfl ?_
    refine mi_wp_p (pc' := 54) (l' := [(4, .int (Int32.ofInt 0)), (3, .int (Int32.ofInt nd)), (2, .int (Int32.ofInt (ρ nd))), (0, .ref 9), (1, .int (Int32.ofInt nd))]) (st' := []) rfl rfl rfl ?_
    refine mi_wp_p (pc' := 56) (st' := [.int (Int32.ofInt 0)]) rfl rfl rfl ?_
    refine mi_wp_p (pc' := 57) (st' := [.ref 9, .int (Int32.ofInt 0)]) rfl rfl rfl ?_
    refine mi_s_gf (x := mi_sF σ 9 8) S rfl rfl rfl (List.mem_of_getElem? (i := 6) rfl) rfl ?_
    refine mi_s_if2 (t := 92) rfl rfl rfl (by unfold mi_R; omega) (by unfold mi_R; omega) (fun hc_ => absurd (show (mi_sF σ 9 8) ≤ (0 : Int) from hc_) (by omega)) (fun _ => ?_)
    refine mi_wp_p (pc' := 64) (st' := [.int (Int32.ofInt nd)]) rfl rfl rfl ?_
    refine mi_wp_p (pc' := 65) (st' := [.int (Int32.ofInt (ρ nd)), .int (Int32.ofInt nd)]) rfl rfl rfl ?_
    refine mi_s_if2 (t := 92) rfl rfl rfl (by unfold mi_R; omega) (by unfold mi_R; omega) ?_ ?_
    · intro (c4 : nd = (ρ nd))
      refine mi_wp_p (pc' := 93) (st' := [.int (Int32.ofInt (ρ nd))]) rfl rfl rfl ?_
      exact mi_s_ret S fr rfl rfl rfl (mi_ret_i rfl) ⟨_, rfl, rfl, V, mi_Ag_rf⟩
    · intro (c4 : ¬ (nd = (ρ nd)))
      refine mi_wp_p (pc' := 69) (st' := [.ref 9]) rfl rfl rfl ?_
      refine mi_s_gr S rfl rfl rfl (List.mem_of_getElem? (i := 18) rfl) ?_
      refine mi_wp_p (pc' := 73) (st' := [.int (Int32.ofInt nd), .ref 12]) rfl rfl rfl ?_
      refine mi_s_ald (x := mi_sA σ 12 nd) S rfl rfl (List.mem_of_getElem? (i := 6) rfl) (by decide) (by omega) (by omega) rfl ?_
      refine mi_wp_p (pc' := 76) (l' := [(5, .int (Int32.ofInt (mi_sA σ 12 nd))), (4, .int (Int32.ofInt 0)), (3, .int (Int32.ofInt nd)), (2, .int (Int32.ofInt (ρ nd))), (0, .ref 9), (1, .int (Int32.ofInt nd))]) (st' := []) rfl rfl rfl ?_
      refine mi_wp_p (pc' := 77) (st' := [.ref 9]) rfl rfl rfl ?_
      refine mi_s_gr S rfl rfl rfl (List.mem_of_getElem? (i := 18) rfl) ?_
      refine mi_wp_p (pc' := 81) (st' := [.int (Int32.ofInt nd), .ref 12]) rfl rfl rfl ?_
      refine mi_wp_p (pc' := 82) (st' := [.int (Int32.ofInt (ρ nd)), .int (Int32.ofInt nd), .ref 12]) rfl rfl rfl ?_
      refine mi_s_ast S rfl rfl (List.mem_of_getElem? (i := 6) rfl) (by decide) (by decide) (by omega) (by omega) ?_
      intro h5 S f
      replace fr := mi_Fm_tr fr f
      refine mi_wp_p (pc' := 85) (st' := [.int (Int32.ofInt (mi_sA σ 12 nd))]) rfl rfl rfl ?_
      refine mi_wp_p (pc' := 86) (l' := [(3, .int (Int32.ofInt (mi_sA σ 12 nd))), (5, .int (Int32.ofInt (mi_sA σ 12 nd))), (4, .int (Int32.ofInt 0)), (2, .int (Int32.ofInt (ρ nd))), (0, .ref 9), (1, .int (Int32.ofInt nd))]) (st' := []) rfl rfl rfl ?_
      refine mi_s_inc (l' := [(4, .int (Int32.ofInt (0 + 1))), (3, .int (Int32.ofInt (mi_sA σ 12 nd))), (5, .int (Int32.ofInt (mi_sA σ 12 nd))), (2, .int (Int32.ofInt (ρ nd))), (0, .ref 9), (1, .int (Int32.ofInt nd))]) rfl rfl rfl (by decide) rfl ?_
      refine mi_wp_p (pc' := 54) rfl rfl rfl ?_
      have hne : nd ≠ ρ nd := c4
      have g6b := g6 (fun q => hne (g4 q).symm)
      have V1 := ty_V_set V hp h1 hne
      exact ty_find_l2 _ _ (mi_sA σ 12 nd) (0 + 1) (mi_sA σ 12 nd) V1 (mi_Ag_u nd (ρ nd) List.mem_cons_self) rfl g1 g1b g2 (by omega) (by omega) _ S fr
  · obtain rfl : nd = 0 := by omega
    refine mi_wp_p (pc' := 1) (st' := [.int (Int32.ofInt 0)]) rfl rfl rfl ?_
    refine mi_s_if1 (t := 12) rfl rfl rfl (by unfold mi_R; omega) (fun _ => ?_) (fun hc_ => absurd (show (0 : Int) ≤ 0 by omega) hc_)
    refine mi_wp_p (pc' := 13) (st' := [.int (Int32.ofInt 0)]) rfl rfl rfl ?_
    exact mi_s_ret S fr rfl rfl rfl rfl ⟨_, rfl, V.2.2.1.symm, V, mi_Ag_rf⟩
