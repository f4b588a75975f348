/-! ===== Known, Scope, rows filled (printed by wip/gen/p_known.py) ===== -/
theorem fill25_l {X : mi_X} {d : Nat} {h0 : mi_H} {σ0 : mi_Sg} {v : Int} : ∀ (m : Nat) (σ : mi_Sg) (i : Int), (576 - i).toNat = m → 0 ≤ i → i ≤ 576 → sg_Af [25] [] σ0 σ → (∀ j, 0 ≤ j → j < i → mi_sA σ 25 j = v) → ∀ h, ty_H h σ → mi_Fm h0 h → mi_wp X d mi_M191 5 [(2, .int (Int32.ofInt i)), (3, .int (Int32.ofInt 576)), (0, .ref 25), (1, .int (Int32.ofInt v))] [] h 0 0 (fun z => ∃ v' h' σ', z = (.inl v', h', 0, 0) ∧ ty_H h' σ' ∧ mi_Fm h0 h' ∧ v' = none ∧ sg_Af [25] [] σ0 σ' ∧ ∀ j, 0 ≤ j → j < 576 → mi_sA σ' 25 j = v) := by
  intro m
  induction m using Nat.strongRecOn with
  | ind m ih =>
    intro σ i hm hi0 hi1 F J h S fr
    refine mi_wp_p (pc' := 6) (st' := [.int (Int32.ofInt i)]) rfl rfl rfl ?_
    refine mi_wp_p (pc' := 7) (st' := [.int (Int32.ofInt 576), .int (Int32.ofInt i)]) rfl rfl rfl ?_
    refine mi_s_if2 (t := 20) rfl rfl rfl (by unfold mi_R; omega) (by unfold mi_R; omega) ?_ ?_
    · intro (c1 : 576 ≤ i)
      obtain rfl : i = 576 := by omega
      exact ty_s_ret S fr rfl rfl rfl rfl ⟨rfl, F, J⟩
    · intro (c1 : ¬ (576 ≤ i))
      refine mi_wp_p (pc' := 11) (st' := [.ref 25]) rfl rfl rfl ?_
      refine mi_wp_p (pc' := 12) (st' := [.int (Int32.ofInt i), .ref 25]) rfl rfl rfl ?_
      refine mi_wp_p (pc' := 13) (st' := [.int (Int32.ofInt v), .int (Int32.ofInt i), .ref 25]) rfl rfl rfl ?_
      refine ty_s_ast S rfl rfl (List.mem_of_getElem? (i := 15) rfl) (by decide) (by decide) (by omega) (by omega) ?_
      intro h2 S f
      replace fr := mi_Fm_tr fr f
      refine mi_s_inc (l' := [(2, .int (Int32.ofInt (i + 1))), (3, .int (Int32.ofInt 576)), (0, .ref 25), (1, .int (Int32.ofInt v))]) rfl rfl rfl (by decide) rfl ?_
      refine mi_wp_p (pc' := 5) rfl rfl rfl ?_
      refine mi_wp_lw (l := [(2, .int (Int32.ofInt (i + 1))), (3, .int (Int32.ofInt 576)), (0, .ref 25), (1, .int (Int32.ofInt v))]) (mi_lw_of (show List.Nodup [2, 3, 0, 1] by decide) ⟨rfl, rfl, rfl, rfl, trivial⟩) ?_
      refine ih _ (by omega) _ (i + 1) rfl (by omega) (by omega) (sg_Af_A F (by decide)) (fun j j0 j1 => ?_) _ S fr
      rw [mi_AA]
      by_cases e : j = i
      · rw [if_pos ⟨rfl, e⟩]
      · rw [if_neg (fun q => e q.2)]
        exact J j j0 (by omega)
theorem fill25 {X : mi_X} {d : Nat} {σ : mi_Sg} {v : Int} : ty_Cv X d mi_M191 [(0, .ref 25), (1, .int (Int32.ofInt v))] σ (fun σ' => sg_Af [25] [] σ σ' ∧ ∀ j, 0 ≤ j → j < 576 → mi_sA σ' 25 j = v) := by
  intro h S
  have fr := mi_Fm_rf h
  refine mi_wp_p (pc' := 1) (st' := [.int (Int32.ofInt 0)]) rfl rfl rfl ?_
  refine mi_wp_p (pc' := 2) (l' := [(2, .int (Int32.ofInt 0)), (0, .ref 25), (1, .int (Int32.ofInt v))]) (st' := []) rfl rfl rfl ?_
  refine mi_wp_p (pc' := 3) (st' := [.ref 25]) rfl rfl rfl ?_
  refine ty_s_lna S rfl rfl (List.mem_of_getElem? (i := 15) rfl) (by decide) ?_
  refine mi_wp_p (pc' := 5) (l' := [(3, .int (Int32.ofInt 576)), (2, .int (Int32.ofInt 0)), (0, .ref 25), (1, .int (Int32.ofInt v))]) (st' := []) rfl rfl rfl ?_
  refine mi_wp_lw (l := [(2, .int (Int32.ofInt 0)), (3, .int (Int32.ofInt 576)), (0, .ref 25), (1, .int (Int32.ofInt v))]) (mi_lw_of (show List.Nodup [2, 3, 0, 1] by decide) ⟨rfl, rfl, rfl, rfl, trivial⟩) ?_
  exact fill25_l _ σ 0 rfl (by omega) (by omega) sg_Af_rf (fun j a b => by omega) h S fr
theorem fill49_l {X : mi_X} {d : Nat} {h0 : mi_H} {σ0 : mi_Sg} {v : Int} : ∀ (m : Nat) (σ : mi_Sg) (i : Int), (26 - i).toNat = m → 0 ≤ i → i ≤ 26 → sg_Af [49] [] σ0 σ → (∀ j, 0 ≤ j → j < i → mi_sA σ 49 j = v) → ∀ h, ty_H h σ → mi_Fm h0 h → mi_wp X d mi_M191 5 [(2, .int (Int32.ofInt i)), (3, .int (Int32.ofInt 26)), (0, .ref 49), (1, .int (Int32.ofInt v))] [] h 0 0 (fun z => ∃ v' h' σ', z = (.inl v', h', 0, 0) ∧ ty_H h' σ' ∧ mi_Fm h0 h' ∧ v' = none ∧ sg_Af [49] [] σ0 σ' ∧ ∀ j, 0 ≤ j → j < 26 → mi_sA σ' 49 j = v) := by
  intro m
  induction m using Nat.strongRecOn with
  | ind m ih =>
    intro σ i hm hi0 hi1 F J h S fr
    refine mi_wp_p (pc' := 6) (st' := [.int (Int32.ofInt i)]) rfl rfl rfl ?_
    refine mi_wp_p (pc' := 7) (st' := [.int (Int32.ofInt 26), .int (Int32.ofInt i)]) rfl rfl rfl ?_
    refine mi_s_if2 (t := 20) rfl rfl rfl (by unfold mi_R; omega) (by unfold mi_R; omega) ?_ ?_
    · intro (c1 : 26 ≤ i)
      obtain rfl : i = 26 := by omega
      exact ty_s_ret S fr rfl rfl rfl rfl ⟨rfl, F, J⟩
    · intro (c1 : ¬ (26 ≤ i))
      refine mi_wp_p (pc' := 11) (st' := [.ref 49]) rfl rfl rfl ?_
      refine mi_wp_p (pc' := 12) (st' := [.int (Int32.ofInt i), .ref 49]) rfl rfl rfl ?_
      refine mi_wp_p (pc' := 13) (st' := [.int (Int32.ofInt v), .int (Int32.ofInt i), .ref 49]) rfl rfl rfl ?_
      refine ty_s_ast S rfl rfl (List.mem_of_getElem? (i := 32) rfl) (by decide) (by decide) (by omega) (by omega) ?_
      intro h2 S f
      replace fr := mi_Fm_tr fr f
      refine mi_s_inc (l' := [(2, .int (Int32.ofInt (i + 1))), (3, .int (Int32.ofInt 26)), (0, .ref 49), (1, .int (Int32.ofInt v))]) rfl rfl rfl (by decide) rfl ?_
      refine mi_wp_p (pc' := 5) rfl rfl rfl ?_
      refine mi_wp_lw (l := [(2, .int (Int32.ofInt (i + 1))), (3, .int (Int32.ofInt 26)), (0, .ref 49), (1, .int (Int32.ofInt v))]) (mi_lw_of (show List.Nodup [2, 3, 0, 1] by decide) ⟨rfl, rfl, rfl, rfl, trivial⟩) ?_
      refine ih _ (by omega) _ (i + 1) rfl (by omega) (by omega) (sg_Af_A F (by decide)) (fun j j0 j1 => ?_) _ S fr
      rw [mi_AA]
      by_cases e : j = i
      · rw [if_pos ⟨rfl, e⟩]
      · rw [if_neg (fun q => e q.2)]
        exact J j j0 (by omega)
theorem fill49 {X : mi_X} {d : Nat} {σ : mi_Sg} {v : Int} : ty_Cv X d mi_M191 [(0, .ref 49), (1, .int (Int32.ofInt v))] σ (fun σ' => sg_Af [49] [] σ σ' ∧ ∀ j, 0 ≤ j → j < 26 → mi_sA σ' 49 j = v) := by
  intro h S
  have fr := mi_Fm_rf h
  refine mi_wp_p (pc' := 1) (st' := [.int (Int32.ofInt 0)]) rfl rfl rfl ?_
  refine mi_wp_p (pc' := 2) (l' := [(2, .int (Int32.ofInt 0)), (0, .ref 49), (1, .int (Int32.ofInt v))]) (st' := []) rfl rfl rfl ?_
  refine mi_wp_p (pc' := 3) (st' := [.ref 49]) rfl rfl rfl ?_
  refine ty_s_lna S rfl rfl (List.mem_of_getElem? (i := 32) rfl) (by decide) ?_
  refine mi_wp_p (pc' := 5) (l' := [(3, .int (Int32.ofInt 26)), (2, .int (Int32.ofInt 0)), (0, .ref 49), (1, .int (Int32.ofInt v))]) (st' := []) rfl rfl rfl ?_
  refine mi_wp_lw (l := [(2, .int (Int32.ofInt 0)), (3, .int (Int32.ofInt 26)), (0, .ref 49), (1, .int (Int32.ofInt v))]) (mi_lw_of (show List.Nodup [2, 3, 0, 1] by decide) ⟨rfl, rfl, rfl, rfl, trivial⟩) ?_
  exact fill49_l _ σ 0 rfl (by omega) (by omega) sg_Af_rf (fun j a b => by omega) h S fr
theorem fill50_l {X : mi_X} {d : Nat} {h0 : mi_H} {σ0 : mi_Sg} {v : Int} : ∀ (m : Nat) (σ : mi_Sg) (i : Int), (3 - i).toNat = m → 0 ≤ i → i ≤ 3 → sg_Af [50] [] σ0 σ → (∀ j, 0 ≤ j → j < i → mi_sA σ 50 j = v) → ∀ h, ty_H h σ → mi_Fm h0 h → mi_wp X d mi_M191 5 [(2, .int (Int32.ofInt i)), (3, .int (Int32.ofInt 3)), (0, .ref 50), (1, .int (Int32.ofInt v))] [] h 0 0 (fun z => ∃ v' h' σ', z = (.inl v', h', 0, 0) ∧ ty_H h' σ' ∧ mi_Fm h0 h' ∧ v' = none ∧ sg_Af [50] [] σ0 σ' ∧ ∀ j, 0 ≤ j → j < 3 → mi_sA σ' 50 j = v) := by
  intro m
  induction m using Nat.strongRecOn with
  | ind m ih =>
    intro σ i hm hi0 hi1 F J h S fr
    refine mi_wp_p (pc' := 6) (st' := [.int (Int32.ofInt i)]) rfl rfl rfl ?_
    refine mi_wp_p (pc' := 7) (st' := [.int (Int32.ofInt 3), .int (Int32.ofInt i)]) rfl rfl rfl ?_
    refine mi_s_if2 (t := 20) rfl rfl rfl (by unfold mi_R; omega) (by unfold mi_R; omega) ?_ ?_
    · intro (c1 : 3 ≤ i)
      obtain rfl : i = 3 := by omega
      exact ty_s_ret S fr rfl rfl rfl rfl ⟨rfl, F, J⟩
    · intro (c1 : ¬ (3 ≤ i))
      refine mi_wp_p (pc' := 11) (st' := [.ref 50]) rfl rfl rfl ?_
      refine mi_wp_p (pc' := 12) (st' := [.int (Int32.ofInt i), .ref 50]) rfl rfl rfl ?_
      refine mi_wp_p (pc' := 13) (st' := [.int (Int32.ofInt v), .int (Int32.ofInt i), .ref 50]) rfl rfl rfl ?_
      refine ty_s_ast S rfl rfl (List.mem_of_getElem? (i := 33) rfl) (by decide) (by decide) (by omega) (by omega) ?_
      intro h2 S f
      replace fr := mi_Fm_tr fr f
      refine mi_s_inc (l' := [(2, .int (Int32.ofInt (i + 1))), (3, .int (Int32.ofInt 3)), (0, .ref 50), (1, .int (Int32.ofInt v))]) rfl rfl rfl (by decide) rfl ?_
      refine mi_wp_p (pc' := 5) rfl rfl rfl ?_
      refine mi_wp_lw (l := [(2, .int (Int32.ofInt (i + 1))), (3, .int (Int32.ofInt 3)), (0, .ref 50), (1, .int (Int32.ofInt v))]) (mi_lw_of (show List.Nodup [2, 3, 0, 1] by decide) ⟨rfl, rfl, rfl, rfl, trivial⟩) ?_
      refine ih _ (by omega) _ (i + 1) rfl (by omega) (by omega) (sg_Af_A F (by decide)) (fun j j0 j1 => ?_) _ S fr
      rw [mi_AA]
      by_cases e : j = i
      · rw [if_pos ⟨rfl, e⟩]
      · rw [if_neg (fun q => e q.2)]
        exact J j j0 (by omega)
theorem fill50 {X : mi_X} {d : Nat} {σ : mi_Sg} {v : Int} : ty_Cv X d mi_M191 [(0, .ref 50), (1, .int (Int32.ofInt v))] σ (fun σ' => sg_Af [50] [] σ σ' ∧ ∀ j, 0 ≤ j → j < 3 → mi_sA σ' 50 j = v) := by
  intro h S
  have fr := mi_Fm_rf h
  refine mi_wp_p (pc' := 1) (st' := [.int (Int32.ofInt 0)]) rfl rfl rfl ?_
  refine mi_wp_p (pc' := 2) (l' := [(2, .int (Int32.ofInt 0)), (0, .ref 50), (1, .int (Int32.ofInt v))]) (st' := []) rfl rfl rfl ?_
  refine mi_wp_p (pc' := 3) (st' := [.ref 50]) rfl rfl rfl ?_
  refine ty_s_lna S rfl rfl (List.mem_of_getElem? (i := 33) rfl) (by decide) ?_
  refine mi_wp_p (pc' := 5) (l' := [(3, .int (Int32.ofInt 3)), (2, .int (Int32.ofInt 0)), (0, .ref 50), (1, .int (Int32.ofInt v))]) (st' := []) rfl rfl rfl ?_
  refine mi_wp_lw (l := [(2, .int (Int32.ofInt 0)), (3, .int (Int32.ofInt 3)), (0, .ref 50), (1, .int (Int32.ofInt v))]) (mi_lw_of (show List.Nodup [2, 3, 0, 1] by decide) ⟨rfl, rfl, rfl, rfl, trivial⟩) ?_
  exact fill50_l _ σ 0 rfl (by omega) (by omega) sg_Af_rf (fun j a b => by omega) h S fr
/-- the first place of a key, or -1 -/
def pl_P (σ : mi_Sg) (k : Nat) (size : Int) (key : Int64) (x : Int) : Prop := ((0 ≤ x ∧ x < size) ∧ mi_sE σ k x = key ∧ ∀ j, 0 ≤ j → j < x → mi_sE σ k j ≠ key) ∨ (x = -1 ∧ ∀ j, 0 ≤ j → j < size → mi_sE σ k j ≠ key)
theorem pl_at {σ : mi_Sg} {k : Nat} {size x i : Int} {key : Int64} (P : pl_P σ k size key x) (h0 : 0 ≤ i) (h1 : i < size) (h2 : mi_sE σ k i = key) (h3 : ∀ j, 0 ≤ j → j < i → mi_sE σ k j ≠ key) : x = i := by
  rcases P with ⟨⟨a, b⟩, c, e⟩ | ⟨-, e⟩
  · rcases Int.lt_trichotomy x i with q | q | q
    · exact absurd c (h3 x a q)
    · exact q
    · exact absurd h2 (e i h0 q)
  · exact absurd h2 (e i h0 h1)
theorem pl_no {σ : mi_Sg} {k : Nat} {size x : Int} {key : Int64} (P : pl_P σ k size key x) (h3 : ∀ j, 0 ≤ j → j < size → mi_sE σ k j ≠ key) : x = -1 := by
  rcases P with ⟨⟨a, b⟩, c, e⟩ | ⟨q, -⟩
  · exact absurd c (h3 x a b)
  · exact q
theorem placeOf18_l {X : mi_X} {d : Nat} {h0 : mi_H} {σ : mi_Sg} {size : Int} {key : Int64} (hs : size ≤ 9) : ∀ (m : Nat) (i : Int), (size - i).toNat = m → 0 ≤ i → i ≤ size → (∀ j, 0 ≤ j → j < i → mi_sE σ 18 j ≠ key) → ∀ h, ty_H h σ → mi_Fm h0 h → mi_wp X d mi_M54 3 [(4, .int (Int32.ofInt i)), (0, .ref 18), (1, .int (Int32.ofInt size)), (2, .long key)] [] h 0 0 (fun z => ∃ v h' σ', z = (.inl v, h', 0, 0) ∧ ty_H h' σ' ∧ mi_Fm h0 h' ∧ ∃ x, v = some (.int (Int32.ofInt x)) ∧ pl_P σ 18 size key x ∧ σ' = σ) := by
  intro m
  induction m using Nat.strongRecOn with
  | ind m ih =>
    intro i hm hi0 hi1 J h S fr
    refine mi_wp_p (pc' := 5) (st' := [.int (Int32.ofInt i)]) rfl rfl rfl ?_
    refine mi_wp_p (pc' := 6) (st' := [.int (Int32.ofInt size), .int (Int32.ofInt i)]) rfl rfl rfl ?_
    refine mi_s_if2 (t := 34) rfl rfl rfl (by unfold mi_R; omega) (by unfold mi_R; omega) ?_ ?_
    · intro (c1 : size ≤ i)
      refine mi_wp_p (pc' := 35) (st' := [.int (Int32.ofInt (-1))]) rfl rfl rfl ?_
      obtain rfl : i = size := by omega
      exact ty_s_ret S fr rfl rfl rfl (mi_ret_i rfl) ⟨_, rfl, Or.inr ⟨rfl, J⟩, rfl⟩
    · intro (c1 : ¬ (size ≤ i))
      refine mi_wp_p (pc' := 11) (st' := [.int (Int32.ofInt i)]) rfl rfl rfl ?_
      refine mi_wp_p (pc' := 12) (st' := [.ref 18, .int (Int32.ofInt i)]) rfl rfl rfl ?_
      refine ty_s_lnl S rfl rfl (List.mem_of_getElem? (i := 2) rfl) ?_
      refine mi_s_if2 (t := 34) rfl rfl rfl (by unfold mi_R; omega) (by unfold mi_R; omega) (fun hc_ => absurd (show 9 ≤ i from hc_) (by omega)) (fun _ => ?_)
      refine mi_wp_p (pc' := 17) (st' := [.ref 18]) rfl rfl rfl ?_
      refine mi_wp_p (pc' := 19) (st' := [.int (Int32.ofInt i), .ref 18]) rfl rfl rfl ?_
      refine ty_s_lld (x := mi_sE σ 18 i) S rfl rfl (List.mem_of_getElem? (i := 2) rfl) (by decide) (by omega) (by omega) rfl ?_
      refine mi_wp_p (pc' := 21) (st' := [.long key, .long (mi_sE σ 18 i)]) rfl rfl rfl ?_
      refine mi_s_lne (t := 28) rfl rfl rfl rfl rfl ?_ ?_
      · intro (c2 : mi_sE σ 18 i ≠ key)
        refine mi_s_inc (l' := [(4, .int (Int32.ofInt (i + 1))), (0, .ref 18), (1, .int (Int32.ofInt size)), (2, .long key)]) rfl rfl rfl (by decide) rfl ?_
        refine mi_wp_p (pc' := 3) rfl rfl rfl ?_
        refine mi_wp_lw (l := [(4, .int (Int32.ofInt (i + 1))), (0, .ref 18), (1, .int (Int32.ofInt size)), (2, .long key)]) (mi_lw_of (show List.Nodup [4, 0, 1, 2] by decide) ⟨rfl, rfl, rfl, rfl, trivial⟩) ?_
        refine ih _ (by omega) (i + 1) rfl (by omega) (by omega) (fun j j0 j1 => ?_) _ S fr
        by_cases e : j = i
        · rw [e]; exact c2
        · exact J j j0 (by omega)
      · intro (c2 : mi_sE σ 18 i = key)
        refine mi_wp_p (pc' := 27) (st' := [.int (Int32.ofInt i)]) rfl rfl rfl ?_
        exact ty_s_ret S fr rfl rfl rfl (mi_ret_i rfl) ⟨_, rfl, Or.inl ⟨⟨hi0, by omega⟩, c2, J⟩, rfl⟩
theorem placeOf18 {X : mi_X} {d : Nat} {σ : mi_Sg} {size : Int} {key : Int64} (h0 : 0 ≤ size) (hs : size ≤ 9) : ty_Ci X d mi_M54 [(0, .ref 18), (1, .int (Int32.ofInt size)), (2, .long key)] σ (fun x σ' => pl_P σ 18 size key x ∧ σ' = σ) := by
  intro h S
  have fr := mi_Fm_rf h
  refine mi_wp_p (pc' := 1) (st' := [.int (Int32.ofInt 0)]) rfl rfl rfl ?_
  refine mi_wp_p (pc' := 3) (l' := [(4, .int (Int32.ofInt 0)), (0, .ref 18), (1, .int (Int32.ofInt size)), (2, .long key)]) (st' := []) rfl rfl rfl ?_
  refine mi_wp_lw (l := [(4, .int (Int32.ofInt 0)), (0, .ref 18), (1, .int (Int32.ofInt size)), (2, .long key)]) (mi_lw_of (show List.Nodup [4, 0, 1, 2] by decide) ⟨rfl, rfl, rfl, rfl, trivial⟩) ?_
  exact placeOf18_l hs _ 0 rfl (by omega) h0 (fun j a b => by omega) h S fr
theorem placeOf23_l {X : mi_X} {d : Nat} {h0 : mi_H} {σ : mi_Sg} {size : Int} {key : Int64} (hs : size ≤ 24) : ∀ (m : Nat) (i : Int), (size - i).toNat = m → 0 ≤ i → i ≤ size → (∀ j, 0 ≤ j → j < i → mi_sE σ 23 j ≠ key) → ∀ h, ty_H h σ → mi_Fm h0 h → mi_wp X d mi_M54 3 [(4, .int (Int32.ofInt i)), (0, .ref 23), (1, .int (Int32.ofInt size)), (2, .long key)] [] h 0 0 (fun z => ∃ v h' σ', z = (.inl v, h', 0, 0) ∧ ty_H h' σ' ∧ mi_Fm h0 h' ∧ ∃ x, v = some (.int (Int32.ofInt x)) ∧ pl_P σ 23 size key x ∧ σ' = σ) := by
  intro m
  induction m using Nat.strongRecOn with
  | ind m ih =>
    intro i hm hi0 hi1 J h S fr
    refine mi_wp_p (pc' := 5) (st' := [.int (Int32.ofInt i)]) rfl rfl rfl ?_
    refine mi_wp_p (pc' := 6) (st' := [.int (Int32.ofInt size), .int (Int32.ofInt i)]) rfl rfl rfl ?_
    refine mi_s_if2 (t := 34) rfl rfl rfl (by unfold mi_R; omega) (by unfold mi_R; omega) ?_ ?_
    · intro (c1 : size ≤ i)
      refine mi_wp_p (pc' := 35) (st' := [.int (Int32.ofInt (-1))]) rfl rfl rfl ?_
      obtain rfl : i = size := by omega
      exact ty_s_ret S fr rfl rfl rfl (mi_ret_i rfl) ⟨_, rfl, Or.inr ⟨rfl, J⟩, rfl⟩
    · intro (c1 : ¬ (size ≤ i))
      refine mi_wp_p (pc' := 11) (st' := [.int (Int32.ofInt i)]) rfl rfl rfl ?_
      refine mi_wp_p (pc' := 12) (st' := [.ref 23, .int (Int32.ofInt i)]) rfl rfl rfl ?_
      refine ty_s_lnl S rfl rfl (List.mem_of_getElem? (i := 4) rfl) ?_
      refine mi_s_if2 (t := 34) rfl rfl rfl (by unfold mi_R; omega) (by unfold mi_R; omega) (fun hc_ => absurd (show 24 ≤ i from hc_) (by omega)) (fun _ => ?_)
      refine mi_wp_p (pc' := 17) (st' := [.ref 23]) rfl rfl rfl ?_
      refine mi_wp_p (pc' := 19) (st' := [.int (Int32.ofInt i), .ref 23]) rfl rfl rfl ?_
      refine ty_s_lld (x := mi_sE σ 23 i) S rfl rfl (List.mem_of_getElem? (i := 4) rfl) (by decide) (by omega) (by omega) rfl ?_
      refine mi_wp_p (pc' := 21) (st' := [.long key, .long (mi_sE σ 23 i)]) rfl rfl rfl ?_
      refine mi_s_lne (t := 28) rfl rfl rfl rfl rfl ?_ ?_
      · intro (c2 : mi_sE σ 23 i ≠ key)
        refine mi_s_inc (l' := [(4, .int (Int32.ofInt (i + 1))), (0, .ref 23), (1, .int (Int32.ofInt size)), (2, .long key)]) rfl rfl rfl (by decide) rfl ?_
        refine mi_wp_p (pc' := 3) rfl rfl rfl ?_
        refine mi_wp_lw (l := [(4, .int (Int32.ofInt (i + 1))), (0, .ref 23), (1, .int (Int32.ofInt size)), (2, .long key)]) (mi_lw_of (show List.Nodup [4, 0, 1, 2] by decide) ⟨rfl, rfl, rfl, rfl, trivial⟩) ?_
        refine ih _ (by omega) (i + 1) rfl (by omega) (by omega) (fun j j0 j1 => ?_) _ S fr
        by_cases e : j = i
        · rw [e]; exact c2
        · exact J j j0 (by omega)
      · intro (c2 : mi_sE σ 23 i = key)
        refine mi_wp_p (pc' := 27) (st' := [.int (Int32.ofInt i)]) rfl rfl rfl ?_
        exact ty_s_ret S fr rfl rfl rfl (mi_ret_i rfl) ⟨_, rfl, Or.inl ⟨⟨hi0, by omega⟩, c2, J⟩, rfl⟩
theorem placeOf23 {X : mi_X} {d : Nat} {σ : mi_Sg} {size : Int} {key : Int64} (h0 : 0 ≤ size) (hs : size ≤ 24) : ty_Ci X d mi_M54 [(0, .ref 23), (1, .int (Int32.ofInt size)), (2, .long key)] σ (fun x σ' => pl_P σ 23 size key x ∧ σ' = σ) := by
  intro h S
  have fr := mi_Fm_rf h
  refine mi_wp_p (pc' := 1) (st' := [.int (Int32.ofInt 0)]) rfl rfl rfl ?_
  refine mi_wp_p (pc' := 3) (l' := [(4, .int (Int32.ofInt 0)), (0, .ref 23), (1, .int (Int32.ofInt size)), (2, .long key)]) (st' := []) rfl rfl rfl ?_
  refine mi_wp_lw (l := [(4, .int (Int32.ofInt 0)), (0, .ref 23), (1, .int (Int32.ofInt size)), (2, .long key)]) (mi_lw_of (show List.Nodup [4, 0, 1, 2] by decide) ⟨rfl, rfl, rfl, rfl, trivial⟩) ?_
  exact placeOf23_l hs _ 0 rfl (by omega) h0 (fun j a b => by omega) h S fr
theorem kn_typeNumber {X : mi_X} {σ : mi_Sg} {d : Nat} {key : Int64} (h0 : 0 ≤ mi_sF σ 17 12) (h1 : mi_sF σ 17 12 ≤ 9) : ty_Ci X (d + 1) mi_M56 [(0, .ref 17), (1, .long key)] σ (fun x σ' => pl_P σ 18 (mi_sF σ 17 12) key x ∧ σ' = σ) := by
  intro h S
  have fr := mi_Fm_rf h
  refine mi_wp_p (pc' := 1) (st' := [.ref 17]) rfl rfl rfl ?_
  refine ty_s_gr S rfl rfl rfl (List.mem_of_getElem? (i := 24) rfl) ?_
  refine mi_wp_p (pc' := 5) (st' := [.ref 17, .ref 18]) rfl rfl rfl ?_
  refine ty_s_gf (x := mi_sF σ 17 12) S rfl rfl rfl (List.mem_of_getElem? (i := 13) rfl) rfl ?_
  refine mi_wp_p (pc' := 9) (st' := [.long key, .int (Int32.ofInt (mi_sF σ 17 12)), .ref 18]) rfl rfl rfl ?_
  refine ty_s_ci rfl rfl rfl rfl rfl rfl (mi_cal_s2 (np := 3) (args := [.ref 18, .int (Int32.ofInt (mi_sF σ 17 12)), .long key]) (rest := []) rfl rfl rfl (Or.inl rfl) rfl (Nat.le_of_ble_eq_true rfl) rfl rfl (Nat.le_of_ble_eq_true rfl)) (Nat.le_of_ble_eq_true rfl) S (placeOf18 h0 h1) ?_
  intro x hh σu S f P
  obtain ⟨P, e2⟩ := P
  rw [e2] at S
  replace fr := mi_Fm_tr fr f
  exact ty_s_ret S fr rfl rfl rfl (mi_ret_i rfl) ⟨_, rfl, P, rfl⟩
theorem kn_definitionNumber {X : mi_X} {σ : mi_Sg} {d : Nat} {key : Int64} (h0 : 0 ≤ mi_sF σ 17 14) (h1 : mi_sF σ 17 14 ≤ 24) : ty_Ci X (d + 1) mi_M46 [(0, .ref 17), (1, .long key)] σ (fun x σ' => pl_P σ 23 (mi_sF σ 17 14) key x ∧ σ' = σ) := by
  intro h S
  have fr := mi_Fm_rf h
  refine mi_wp_p (pc' := 1) (st' := [.ref 17]) rfl rfl rfl ?_
  refine ty_s_gr S rfl rfl rfl (List.mem_of_getElem? (i := 29) rfl) ?_
  refine mi_wp_p (pc' := 5) (st' := [.ref 17, .ref 23]) rfl rfl rfl ?_
  refine ty_s_gf (x := mi_sF σ 17 14) S rfl rfl rfl (List.mem_of_getElem? (i := 15) rfl) rfl ?_
  refine mi_wp_p (pc' := 9) (st' := [.long key, .int (Int32.ofInt (mi_sF σ 17 14)), .ref 23]) rfl rfl rfl ?_
  refine ty_s_ci rfl rfl rfl rfl rfl rfl (mi_cal_s2 (np := 3) (args := [.ref 23, .int (Int32.ofInt (mi_sF σ 17 14)), .long key]) (rest := []) rfl rfl rfl (Or.inl rfl) rfl (Nat.le_of_ble_eq_true rfl) rfl rfl (Nat.le_of_ble_eq_true rfl)) (Nat.le_of_ble_eq_true rfl) S (placeOf23 h0 h1) ?_
  intro x hh σu S f P
  obtain ⟨P, e2⟩ := P
  rw [e2] at S
  replace fr := mi_Fm_tr fr f
  exact ty_s_ret S fr rfl rfl rfl (mi_ret_i rfl) ⟨_, rfl, P, rfl⟩
theorem kn_definitions {X : mi_X} {d : Nat} {σ : mi_Sg}  : ty_Ci X d mi_M47 [(0, .ref 17)] σ (fun x σ' => x = mi_sF σ 17 14 ∧ σ' = σ) := by
  intro h S
  have fr := mi_Fm_rf h
  refine mi_wp_p (pc' := 1) (st' := [.ref 17]) rfl rfl rfl ?_
  refine ty_s_gf (x := mi_sF σ 17 14) S rfl rfl rfl (List.mem_of_getElem? (i := 15) rfl) rfl ?_
  exact ty_s_ret S fr rfl rfl rfl (mi_ret_i rfl) ⟨_, rfl, ⟨rfl, rfl⟩⟩
theorem kn_definitionsFull {X : mi_X} {d : Nat} {σ : mi_Sg} (h0 : 0 ≤ mi_sF σ 17 14) (h1 : mi_sF σ 17 14 < 24) : ty_Ci X d mi_M48 [(0, .ref 17)] σ (fun x σ' => x = 0 ∧ σ' = σ) := by
  intro h S
  have fr := mi_Fm_rf h
  refine mi_wp_p (pc' := 1) (st' := [.ref 17]) rfl rfl rfl ?_
  refine ty_s_gf (x := mi_sF σ 17 14) S rfl rfl rfl (List.mem_of_getElem? (i := 15) rfl) rfl ?_
  refine mi_s_k (pc' := 6) (e := 24) rfl rfl rfl (by decide +kernel) ?_
  refine mi_s_if2 (t := 13) rfl rfl rfl (by unfold mi_R; omega) (by unfold mi_R; omega) (fun _ => ?_) (fun hc_ => absurd (show (mi_sF σ 17 14) < 24 by omega) hc_)
  refine mi_wp_p (pc' := 14) (st' := [.int (Int32.ofInt 0)]) rfl rfl rfl ?_
  exact ty_s_ret S fr rfl rfl rfl rfl ⟨_, rfl, ⟨rfl, rfl⟩⟩
theorem kn_marksOfType {X : mi_X} {d : Nat} {σ : mi_Sg} {a : Int} (h0 : 0 ≤ a) (h1 : a < mi_sF σ 17 12) (h2 : mi_sF σ 17 12 ≤ 9) : ty_Ci X d mi_M53 [(0, .ref 17), (1, .int (Int32.ofInt a))] σ (fun x σ' => x = mi_sA σ 19 a ∧ σ' = σ) := by
  intro h S
  have fr := mi_Fm_rf h
  refine mi_wp_p (pc' := 1) (st' := [.int (Int32.ofInt a)]) rfl rfl rfl ?_
  refine mi_s_if1 (t := 21) rfl rfl rfl (by unfold mi_R; omega) (fun hc_ => absurd (show a < 0 from hc_) (by omega)) (fun _ => ?_)
  refine mi_wp_p (pc' := 5) (st' := [.int (Int32.ofInt a)]) rfl rfl rfl ?_
  refine mi_wp_p (pc' := 6) (st' := [.ref 17, .int (Int32.ofInt a)]) rfl rfl rfl ?_
  refine ty_s_gf (x := mi_sF σ 17 12) S rfl rfl rfl (List.mem_of_getElem? (i := 13) rfl) rfl ?_
  refine mi_s_if2 (t := 21) rfl rfl rfl (by unfold mi_R; omega) (by unfold mi_R; omega) (fun hc_ => absurd (show (mi_sF σ 17 12) ≤ a from hc_) (by omega)) (fun _ => ?_)
  refine mi_wp_p (pc' := 13) (st' := [.ref 17]) rfl rfl rfl ?_
  refine ty_s_gr S rfl rfl rfl (List.mem_of_getElem? (i := 25) rfl) ?_
  refine mi_wp_p (pc' := 17) (st' := [.int (Int32.ofInt a), .ref 19]) rfl rfl rfl ?_
  refine ty_s_ald (x := mi_sA σ 19 a) S rfl rfl (List.mem_of_getElem? (i := 11) rfl) (by decide) (by omega) (by omega) rfl ?_
  refine mi_wp_p (pc' := 22) rfl rfl rfl ?_
  exact ty_s_ret S fr rfl rfl rfl (mi_ret_i rfl) ⟨_, rfl, ⟨rfl, rfl⟩⟩
theorem kn_keyOfType {X : mi_X} {d : Nat} {σ : mi_Sg} {a : Int} (h0 : 0 ≤ a) (h1 : a < mi_sF σ 17 12) (h2 : mi_sF σ 17 12 ≤ 9) : ty_Cj X d mi_M52 [(0, .ref 17), (1, .int (Int32.ofInt a))] σ (fun x σ' => x = mi_sE σ 18 a ∧ σ' = σ) := by
  intro h S
  have fr := mi_Fm_rf h
  refine mi_wp_p (pc' := 1) (st' := [.int (Int32.ofInt a)]) rfl rfl rfl ?_
  refine mi_s_if1 (t := 21) rfl rfl rfl (by unfold mi_R; omega) (fun hc_ => absurd (show a < 0 from hc_) (by omega)) (fun _ => ?_)
  refine mi_wp_p (pc' := 5) (st' := [.int (Int32.ofInt a)]) rfl rfl rfl ?_
  refine mi_wp_p (pc' := 6) (st' := [.ref 17, .int (Int32.ofInt a)]) rfl rfl rfl ?_
  refine ty_s_gf (x := mi_sF σ 17 12) S rfl rfl rfl (List.mem_of_getElem? (i := 13) rfl) rfl ?_
  refine mi_s_if2 (t := 21) rfl rfl rfl (by unfold mi_R; omega) (by unfold mi_R; omega) (fun hc_ => absurd (show (mi_sF σ 17 12) ≤ a from hc_) (by omega)) (fun _ => ?_)
  refine mi_wp_p (pc' := 13) (st' := [.ref 17]) rfl rfl rfl ?_
  refine ty_s_gr S rfl rfl rfl (List.mem_of_getElem? (i := 24) rfl) ?_
  refine mi_wp_p (pc' := 17) (st' := [.int (Int32.ofInt a), .ref 18]) rfl rfl rfl ?_
  refine ty_s_lld (x := mi_sE σ 18 a) S rfl rfl (List.mem_of_getElem? (i := 2) rfl) (by decide) (by omega) (by omega) rfl ?_
  refine mi_wp_p (pc' := 22) rfl rfl rfl ?_
  exact ty_s_ret S fr rfl rfl rfl rfl ⟨_, rfl, ⟨rfl, rfl⟩⟩
theorem kn_hasDefinition {X : mi_X} {d : Nat} {σ : mi_Sg} {a : Int} (h0 : 0 ≤ a) (h1 : a < mi_sF σ 17 14) (h2 : mi_sF σ 17 14 ≤ 24) : ty_Ci X d mi_M50 [(0, .ref 17), (1, .int (Int32.ofInt a))] σ (fun x σ' => x = 1 ∧ σ' = σ) := by
  intro h S
  have fr := mi_Fm_rf h
  refine mi_wp_p (pc' := 1) (st' := [.int (Int32.ofInt a)]) rfl rfl rfl ?_
  refine mi_s_if1 (t := 16) rfl rfl rfl (by unfold mi_R; omega) (fun hc_ => absurd (show a < 0 from hc_) (by omega)) (fun _ => ?_)
  refine mi_wp_p (pc' := 5) (st' := [.int (Int32.ofInt a)]) rfl rfl rfl ?_
  refine mi_wp_p (pc' := 6) (st' := [.ref 17, .int (Int32.ofInt a)]) rfl rfl rfl ?_
  refine ty_s_gf (x := mi_sF σ 17 14) S rfl rfl rfl (List.mem_of_getElem? (i := 15) rfl) rfl ?_
  refine mi_s_if2 (t := 16) rfl rfl rfl (by unfold mi_R; omega) (by unfold mi_R; omega) (fun hc_ => absurd (show (mi_sF σ 17 14) ≤ a from hc_) (by omega)) (fun _ => ?_)
  refine mi_wp_p (pc' := 13) (st' := [.int (Int32.ofInt 1)]) rfl rfl rfl ?_
  refine mi_wp_p (pc' := 17) rfl rfl rfl ?_
  exact ty_s_ret S fr rfl rfl rfl rfl ⟨_, rfl, ⟨rfl, rfl⟩⟩
theorem kn_typeOfDefinition {X : mi_X} {σ : mi_Sg} {d : Nat} {a : Int} (h0 : 0 ≤ a) (h1 : a < mi_sF σ 17 14) (h2 : mi_sF σ 17 14 ≤ 24) : ty_Ci X (d + 1) mi_M57 [(0, .ref 17), (1, .int (Int32.ofInt a))] σ (fun x σ' => x = mi_sA σ 24 a ∧ σ' = σ) := by
  intro h S
  have fr := mi_Fm_rf h
  refine mi_wp_p (pc' := 1) (st' := [.ref 17]) rfl rfl rfl ?_
  refine mi_wp_p (pc' := 2) (st' := [.int (Int32.ofInt a), .ref 17]) rfl rfl rfl ?_
  refine ty_s_ci rfl rfl rfl rfl rfl rfl (mi_cal_v2 (np := 1) (args := [.ref 17, .int (Int32.ofInt a)]) (rest := []) rfl rfl rfl rfl rfl (Nat.le_of_ble_eq_true rfl) rfl rfl (Nat.le_of_ble_eq_true rfl) (ty_rcS S (List.mem_of_getElem? (i := 10) rfl))) (Nat.le_of_ble_eq_true rfl) S (kn_hasDefinition h0 h1 h2) ?_
  intro x hh σu S f P
  obtain ⟨e1, e2⟩ := P
  rw [e2] at S
  rw [e1]
  clear e1 e2
  replace fr := mi_Fm_tr fr f
  refine mi_s_if1 (t := 17) rfl rfl rfl (by unfold mi_R; omega) (fun hc_ => absurd (show (1 : Int) = 0 from hc_) (by omega)) (fun _ => ?_)
  refine mi_wp_p (pc' := 9) (st' := [.ref 17]) rfl rfl rfl ?_
  refine ty_s_gr S rfl rfl rfl (List.mem_of_getElem? (i := 30) rfl) ?_
  refine mi_wp_p (pc' := 13) (st' := [.int (Int32.ofInt a), .ref 24]) rfl rfl rfl ?_
  refine ty_s_ald (x := mi_sA σ 24 a) S rfl rfl (List.mem_of_getElem? (i := 14) rfl) (by decide) (by omega) (by omega) rfl ?_
  refine mi_wp_p (pc' := 18) rfl rfl rfl ?_
  exact ty_s_ret S fr rfl rfl rfl (mi_ret_i rfl) ⟨_, rfl, ⟨rfl, rfl⟩⟩
theorem kn_timesUsed {X : mi_X} {σ : mi_Sg} {d : Nat} {a b : Int} (h0 : 0 ≤ a) (h1 : a < mi_sF σ 17 14) (h2 : mi_sF σ 17 14 ≤ 24) (g0 : 0 ≤ b) (g1 : b < mi_sF σ 17 14) : ty_Ci X (d + 1) mi_M55 [(0, .ref 17), (1, .int (Int32.ofInt a)), (2, .int (Int32.ofInt b))] σ (fun x σ' => x = mi_sA σ 25 (a * 24 + b) ∧ σ' = σ) := by
  intro h S
  have fr := mi_Fm_rf h
  refine mi_wp_p (pc' := 1) (st' := [.ref 17]) rfl rfl rfl ?_
  refine mi_wp_p (pc' := 2) (st' := [.int (Int32.ofInt a), .ref 17]) rfl rfl rfl ?_
  refine ty_s_ci rfl rfl rfl rfl rfl rfl (mi_cal_v2 (np := 1) (args := [.ref 17, .int (Int32.ofInt a)]) (rest := []) rfl rfl rfl rfl rfl (Nat.le_of_ble_eq_true rfl) rfl rfl (Nat.le_of_ble_eq_true rfl) (ty_rcS S (List.mem_of_getElem? (i := 10) rfl))) (Nat.le_of_ble_eq_true rfl) S (kn_hasDefinition h0 h1 h2) ?_
  intro x hh σu S f P
  obtain ⟨e1, e2⟩ := P
  rw [e2] at S
  rw [e1]
  clear e1 e2
  replace fr := mi_Fm_tr fr f
  refine mi_s_if1 (t := 30) rfl rfl rfl (by unfold mi_R; omega) (fun hc_ => absurd (show (1 : Int) = 0 from hc_) (by omega)) (fun _ => ?_)
  refine mi_wp_p (pc' := 9) (st' := [.ref 17]) rfl rfl rfl ?_
  refine mi_wp_p (pc' := 10) (st' := [.int (Int32.ofInt b), .ref 17]) rfl rfl rfl ?_
  refine ty_s_ci rfl rfl rfl rfl rfl rfl (mi_cal_v2 (np := 1) (args := [.ref 17, .int (Int32.ofInt b)]) (rest := []) rfl rfl rfl rfl rfl (Nat.le_of_ble_eq_true rfl) rfl rfl (Nat.le_of_ble_eq_true rfl) (ty_rcS S (List.mem_of_getElem? (i := 10) rfl))) (Nat.le_of_ble_eq_true rfl) S (kn_hasDefinition g0 g1 h2) ?_
  intro x hh σu S f P
  obtain ⟨e1, e2⟩ := P
  rw [e2] at S
  rw [e1]
  clear e1 e2
  replace fr := mi_Fm_tr fr f
  refine mi_s_if1 (t := 30) rfl rfl rfl (by unfold mi_R; omega) (fun hc_ => absurd (show (1 : Int) = 0 from hc_) (by omega)) (fun _ => ?_)
  refine mi_wp_p (pc' := 17) (st' := [.ref 17]) rfl rfl rfl ?_
  refine ty_s_gr S rfl rfl rfl (List.mem_of_getElem? (i := 31) rfl) ?_
  refine mi_wp_p (pc' := 21) (st' := [.int (Int32.ofInt a), .ref 25]) rfl rfl rfl ?_
  refine mi_s_k (pc' := 23) (e := 24) rfl rfl rfl (by decide +kernel) ?_
  refine mi_s_mul rfl rfl ?_
  refine mi_wp_p (pc' := 25) (st' := [.int (Int32.ofInt b), .int (Int32.ofInt (a * 24)), .ref 25]) rfl rfl rfl ?_
  refine mi_s_add rfl rfl ?_
  refine ty_s_ald (x := mi_sA σ 25 ((a * 24) + b)) S rfl rfl (List.mem_of_getElem? (i := 15) rfl) (by decide) (by omega) (by omega) rfl ?_
  refine mi_wp_p (pc' := 31) rfl rfl rfl ?_
  exact ty_s_ret S fr rfl rfl rfl (mi_ret_i rfl) ⟨_, rfl, ⟨rfl, rfl⟩⟩
theorem kn_addUse {X : mi_X} {d : Nat} {σ : mi_Sg} {a b : Int} (h0 : 0 ≤ a) (h1 : a < 24) (g0 : 0 ≤ b) (g1 : b < 24) : ty_Cv X d mi_M45 [(0, .ref 17), (1, .int (Int32.ofInt a)), (2, .int (Int32.ofInt b))] σ (fun σ' => σ' = mi_uA σ 25 (a * 24 + b) (mi_sA σ 25 (a * 24 + b) + 1)) := by
  intro h S
  have fr := mi_Fm_rf h
  refine mi_wp_p (pc' := 1) (st' := [.int (Int32.ofInt a)]) rfl rfl rfl ?_
  refine mi_s_if1 (t := 35) rfl rfl rfl (by unfold mi_R; omega) (fun hc_ => absurd (show a < 0 from hc_) (by omega)) (fun _ => ?_)
  refine mi_wp_p (pc' := 5) (st' := [.int (Int32.ofInt a)]) rfl rfl rfl ?_
  refine mi_s_k (pc' := 7) (e := 24) rfl rfl rfl (by decide +kernel) ?_
  refine mi_s_if2 (t := 35) rfl rfl rfl (by unfold mi_R; omega) (by unfold mi_R; omega) (fun hc_ => absurd (show 24 ≤ a from hc_) (by omega)) (fun _ => ?_)
  refine mi_wp_p (pc' := 11) (st' := [.int (Int32.ofInt b)]) rfl rfl rfl ?_
  refine mi_s_if1 (t := 35) rfl rfl rfl (by unfold mi_R; omega) (fun hc_ => absurd (show b < 0 from hc_) (by omega)) (fun _ => ?_)
  refine mi_wp_p (pc' := 15) (st' := [.int (Int32.ofInt b)]) rfl rfl rfl ?_
  refine mi_s_k (pc' := 17) (e := 24) rfl rfl rfl (by decide +kernel) ?_
  refine mi_s_if2 (t := 35) rfl rfl rfl (by unfold mi_R; omega) (by unfold mi_R; omega) (fun hc_ => absurd (show 24 ≤ b from hc_) (by omega)) (fun _ => ?_)
  refine mi_wp_p (pc' := 21) (st' := [.ref 17]) rfl rfl rfl ?_
  refine ty_s_gr S rfl rfl rfl (List.mem_of_getElem? (i := 31) rfl) ?_
  refine mi_wp_p (pc' := 25) (st' := [.int (Int32.ofInt a), .ref 25]) rfl rfl rfl ?_
  refine mi_s_k (pc' := 27) (e := 24) rfl rfl rfl (by decide +kernel) ?_
  refine mi_s_mul rfl rfl ?_
  refine mi_wp_p (pc' := 29) (st' := [.int (Int32.ofInt b), .int (Int32.ofInt (a * 24)), .ref 25]) rfl rfl rfl ?_
  refine mi_s_add rfl rfl ?_
  refine mi_wp_p (pc' := 31) (st' := [.int (Int32.ofInt ((a * 24) + b)), .ref 25, .int (Int32.ofInt ((a * 24) + b)), .ref 25]) rfl rfl rfl ?_
  refine ty_s_ald (x := mi_sA σ 25 ((a * 24) + b)) S rfl rfl (List.mem_of_getElem? (i := 15) rfl) (by decide) (by omega) (by omega) rfl ?_
  refine mi_wp_p (pc' := 33) (st' := [.int (Int32.ofInt 1), .int (Int32.ofInt (mi_sA σ 25 ((a * 24) + b))), .int (Int32.ofInt ((a * 24) + b)), .ref 25]) rfl rfl rfl ?_
  refine mi_s_add rfl rfl ?_
  refine ty_s_ast S rfl rfl (List.mem_of_getElem? (i := 15) rfl) (by decide) (by decide) (by omega) (by omega) ?_
  intro h1 S f
  replace fr := mi_Fm_tr fr f
  exact ty_s_ret S fr rfl rfl rfl rfl ⟨rfl, rfl⟩
theorem kn_addDefinition {X : mi_X} {σ : mi_Sg} {d : Nat} {key : Int64} {t : Int} (h0 : 0 ≤ mi_sF σ 17 14) (h1 : mi_sF σ 17 14 < 24) : ty_Cv X (d + 1) mi_M44 [(0, .ref 17), (1, .long key), (3, .int (Int32.ofInt t))] σ (fun σ' => σ' = mi_uF (mi_uA (mi_uE σ 23 (mi_sF σ 17 14) key) 24 (mi_sF σ 17 14) t) 17 14 (mi_sF σ 17 14 + 1)) := by
  intro h S
  have fr := mi_Fm_rf h
  refine mi_wp_p (pc' := 1) (st' := [.ref 17]) rfl rfl rfl ?_
  refine ty_s_ci rfl rfl rfl rfl rfl rfl (mi_cal_v2 (np := 0) (args := [.ref 17]) (rest := []) rfl rfl rfl rfl rfl (Nat.le_of_ble_eq_true rfl) rfl rfl (Nat.le_of_ble_eq_true rfl) (ty_rcS S (List.mem_of_getElem? (i := 10) rfl))) (Nat.le_of_ble_eq_true rfl) S (kn_definitionsFull h0 h1) ?_
  intro x hh σu S f P
  obtain ⟨e1, e2⟩ := P
  rw [e2] at S
  rw [e1]
  clear e1 e2
  replace fr := mi_Fm_tr fr f
  refine mi_s_if1 (t := 37) rfl rfl rfl (by unfold mi_R; omega) (fun hc_ => absurd (show (0 : Int) ≠ 0 from hc_) (by omega)) (fun _ => ?_)
  refine mi_wp_p (pc' := 8) (st' := [.ref 17]) rfl rfl rfl ?_
  refine ty_s_gr S rfl rfl rfl (List.mem_of_getElem? (i := 29) rfl) ?_
  refine mi_wp_p (pc' := 12) (st' := [.ref 17, .ref 23]) rfl rfl rfl ?_
  refine ty_s_gf (x := mi_sF σ 17 14) S rfl rfl rfl (List.mem_of_getElem? (i := 15) rfl) rfl ?_
  refine mi_wp_p (pc' := 16) (st' := [.long key, .int (Int32.ofInt (mi_sF σ 17 14)), .ref 23]) rfl rfl rfl ?_
  refine ty_s_lst S rfl rfl (List.mem_of_getElem? (i := 4) rfl) (by decide) (by decide) (by omega) (by omega) ?_
  intro h2 S f
  replace fr := mi_Fm_tr fr f
  refine mi_wp_p (pc' := 18) (st' := [.ref 17]) rfl rfl rfl ?_
  refine ty_s_gr S rfl rfl rfl (List.mem_of_getElem? (i := 30) rfl) ?_
  refine mi_wp_p (pc' := 22) (st' := [.ref 17, .ref 24]) rfl rfl rfl ?_
  refine ty_s_gf (x := mi_sF σ 17 14) S rfl rfl rfl (List.mem_of_getElem? (i := 15) rfl) rfl ?_
  refine mi_wp_p (pc' := 26) (st' := [.int (Int32.ofInt t), .int (Int32.ofInt (mi_sF σ 17 14)), .ref 24]) rfl rfl rfl ?_
  refine ty_s_ast S rfl rfl (List.mem_of_getElem? (i := 14) rfl) (by decide) (by decide) (by omega) (by omega) ?_
  intro h3 S f
  replace fr := mi_Fm_tr fr f
  refine mi_wp_p (pc' := 28) (st' := [.ref 17]) rfl rfl rfl ?_
  refine mi_wp_p (pc' := 29) (st' := [.ref 17, .ref 17]) rfl rfl rfl ?_
  refine ty_s_gf (x := mi_sF σ 17 14) S rfl rfl rfl (List.mem_of_getElem? (i := 15) rfl) rfl ?_
  refine mi_wp_p (pc' := 33) (st' := [.int (Int32.ofInt 1), .int (Int32.ofInt (mi_sF σ 17 14)), .ref 17]) rfl rfl rfl ?_
  refine mi_s_add rfl rfl ?_
  refine ty_s_pf S rfl rfl rfl (List.mem_of_getElem? (i := 15) rfl) (by decide) mi_fit_int (Or.inl rfl) ?_
  intro h4 S f
  replace fr := mi_Fm_tr fr f
  exact ty_s_ret S fr rfl rfl rfl rfl ⟨rfl, rfl⟩
theorem kn_forgetItems {X : mi_X} {σ : mi_Sg} {d : Nat} (hb : mi_sF σ 17 11 = 13) : ty_Cv X (d + 1) mi_M49 [(0, .ref 17)] σ (fun σ' => sg_Af [25] [] (mi_uF (mi_uF (mi_uF (mi_uF (mi_uF σ 9 8 13) 9 9 13) 17 12 3) 17 13 2) 17 14 0) σ' ∧ ∀ j, 0 ≤ j → j < 576 → mi_sA σ' 25 j = 0) := by
  intro h S
  have fr := mi_Fm_rf h
  refine mi_wp_p (pc' := 1) (st' := [.ref 17]) rfl rfl rfl ?_
  refine ty_s_gr S rfl rfl rfl (List.mem_of_getElem? (i := 23) rfl) ?_
  refine mi_wp_p (pc' := 5) (st' := [.ref 17, .ref 9]) rfl rfl rfl ?_
  refine ty_s_gf (x := mi_sF σ 17 11) S rfl rfl rfl (List.mem_of_getElem? (i := 12) rfl) rfl ?_
  refine ty_s_cv rfl rfl rfl rfl rfl rfl (mi_cal_v2 (np := 1) (args := [.ref 9, .int (Int32.ofInt (mi_sF σ 17 11))]) (rest := []) rfl rfl rfl rfl rfl (Nat.le_of_ble_eq_true rfl) rfl rfl (Nat.le_of_ble_eq_true rfl) (ty_rcS S (List.mem_of_getElem? (i := 5) rfl))) (Nat.le_of_ble_eq_true rfl) S (by rw [hb]; exact ty_cut) ?_
  intro hh σ1 S f P
  subst P
  replace fr := mi_Fm_tr fr f
  refine mi_wp_p (pc' := 12) (st' := [.ref 17]) rfl rfl rfl ?_
  refine mi_wp_p (pc' := 13) (st' := [.int (Int32.ofInt 3), .ref 17]) rfl rfl rfl ?_
  refine ty_s_pf S rfl rfl rfl (List.mem_of_getElem? (i := 13) rfl) (by decide) mi_fit_int (Or.inl rfl) ?_
  intro h5 S f
  replace fr := mi_Fm_tr fr f
  refine mi_wp_p (pc' := 17) (st' := [.ref 17]) rfl rfl rfl ?_
  refine mi_wp_p (pc' := 18) (st' := [.int (Int32.ofInt 2), .ref 17]) rfl rfl rfl ?_
  refine ty_s_pf S rfl rfl rfl (List.mem_of_getElem? (i := 14) rfl) (by decide) mi_fit_int (Or.inl rfl) ?_
  intro h6 S f
  replace fr := mi_Fm_tr fr f
  refine mi_wp_p (pc' := 22) (st' := [.ref 17]) rfl rfl rfl ?_
  refine mi_wp_p (pc' := 23) (st' := [.int (Int32.ofInt 0), .ref 17]) rfl rfl rfl ?_
  refine ty_s_pf S rfl rfl rfl (List.mem_of_getElem? (i := 15) rfl) (by decide) mi_fit_int (Or.inl rfl) ?_
  intro h7 S f
  replace fr := mi_Fm_tr fr f
  refine mi_wp_p (pc' := 27) (st' := [.ref 17]) rfl rfl rfl ?_
  refine ty_s_gr S rfl rfl rfl (List.mem_of_getElem? (i := 31) rfl) ?_
  refine mi_wp_p (pc' := 31) (st' := [.int (Int32.ofInt 0), .ref 25]) rfl rfl rfl ?_
  refine ty_s_cv rfl rfl rfl rfl rfl rfl (mi_cal_s2 (np := 2) (args := [.ref 25, .int (Int32.ofInt 0)]) (rest := []) rfl rfl rfl (Or.inl rfl) rfl (Nat.le_of_ble_eq_true rfl) rfl rfl (Nat.le_of_ble_eq_true rfl)) (Nat.le_of_ble_eq_true rfl) S fill25 ?_
  intro hh σ2 S f P
  replace fr := mi_Fm_tr fr f
  exact ty_s_ret S fr rfl rfl rfl rfl ⟨rfl, P⟩
theorem sc_clear {X : mi_X} {d : Nat} {σ : mi_Sg}  : ty_Cv X d mi_M86 [(0, .ref 44)] σ (fun σ' => σ' = mi_uF σ 44 3 0) := by
  intro h S
  have fr := mi_Fm_rf h
  refine mi_wp_p (pc' := 1) (st' := [.ref 44]) rfl rfl rfl ?_
  refine mi_wp_p (pc' := 2) (st' := [.int (Int32.ofInt 0), .ref 44]) rfl rfl rfl ?_
  refine ty_s_pf S rfl rfl rfl (List.mem_of_getElem? (i := 23) rfl) (by decide) mi_fit_int (Or.inl rfl) ?_
  intro h8 S f
  replace fr := mi_Fm_tr fr f
  exact ty_s_ret S fr rfl rfl rfl rfl ⟨rfl, rfl⟩
theorem sc_last {X : mi_X} {d : Nat} {σ : mi_Sg}  : ty_Ci X d mi_M89 [(0, .ref 44)] σ (fun x σ' => x = mi_sF σ 44 3 - 1 ∧ σ' = σ) := by
  intro h S
  have fr := mi_Fm_rf h
  refine mi_wp_p (pc' := 1) (st' := [.ref 44]) rfl rfl rfl ?_
  refine ty_s_gf (x := mi_sF σ 44 3) S rfl rfl rfl (List.mem_of_getElem? (i := 23) rfl) rfl ?_
  refine mi_wp_p (pc' := 5) (st' := [.int (Int32.ofInt 1), .int (Int32.ofInt (mi_sF σ 44 3))]) rfl rfl rfl ?_
  refine mi_s_sub rfl rfl ?_
  exact ty_s_ret S fr rfl rfl rfl (mi_ret_i rfl) ⟨_, rfl, ⟨rfl, rfl⟩⟩
theorem sc_typeOf {X : mi_X} {d : Nat} {σ : mi_Sg} {a : Int} (h0 : 0 ≤ a) (h1 : a < mi_sF σ 44 3) (h2 : mi_sF σ 44 3 ≤ 300) : ty_Ci X d mi_M91 [(0, .ref 44), (1, .int (Int32.ofInt a))] σ (fun x σ' => x = mi_sA σ 46 a ∧ σ' = σ) := by
  intro h S
  have fr := mi_Fm_rf h
  refine mi_wp_p (pc' := 1) (st' := [.int (Int32.ofInt a)]) rfl rfl rfl ?_
  refine mi_s_if1 (t := 21) rfl rfl rfl (by unfold mi_R; omega) (fun hc_ => absurd (show a < 0 from hc_) (by omega)) (fun _ => ?_)
  refine mi_wp_p (pc' := 5) (st' := [.int (Int32.ofInt a)]) rfl rfl rfl ?_
  refine mi_wp_p (pc' := 6) (st' := [.ref 44, .int (Int32.ofInt a)]) rfl rfl rfl ?_
  refine ty_s_gf (x := mi_sF σ 44 3) S rfl rfl rfl (List.mem_of_getElem? (i := 23) rfl) rfl ?_
  refine mi_s_if2 (t := 21) rfl rfl rfl (by unfold mi_R; omega) (by unfold mi_R; omega) (fun hc_ => absurd (show (mi_sF σ 44 3) ≤ a from hc_) (by omega)) (fun _ => ?_)
  refine mi_wp_p (pc' := 13) (st' := [.ref 44]) rfl rfl rfl ?_
  refine ty_s_gr S rfl rfl rfl (List.mem_of_getElem? (i := 55) rfl) ?_
  refine mi_wp_p (pc' := 17) (st' := [.int (Int32.ofInt a), .ref 46]) rfl rfl rfl ?_
  refine ty_s_ald (x := mi_sA σ 46 a) S rfl rfl (List.mem_of_getElem? (i := 30) rfl) (by decide) (by omega) (by omega) rfl ?_
  refine mi_wp_p (pc' := 22) rfl rfl rfl ?_
  exact ty_s_ret S fr rfl rfl rfl (mi_ret_i rfl) ⟨_, rfl, ⟨rfl, rfl⟩⟩
theorem sc_isGeneral0 {X : mi_X} {d : Nat} {σ : mi_Sg} {a : Int} (h0 : 0 ≤ a) (h1 : a < mi_sF σ 44 3) (h2 : mi_sF σ 44 3 ≤ 300) (h3 : mi_sA σ 47 a = 0) : ty_Ci X d mi_M88 [(0, .ref 44), (1, .int (Int32.ofInt a))] σ (fun x σ' => x = 0 ∧ σ' = σ) := by
  intro h S
  have fr := mi_Fm_rf h
  refine mi_wp_p (pc' := 1) (st' := [.int (Int32.ofInt a)]) rfl rfl rfl ?_
  refine mi_s_if1 (t := 25) rfl rfl rfl (by unfold mi_R; omega) (fun hc_ => absurd (show a < 0 from hc_) (by omega)) (fun _ => ?_)
  refine mi_wp_p (pc' := 5) (st' := [.int (Int32.ofInt a)]) rfl rfl rfl ?_
  refine mi_wp_p (pc' := 6) (st' := [.ref 44, .int (Int32.ofInt a)]) rfl rfl rfl ?_
  refine ty_s_gf (x := mi_sF σ 44 3) S rfl rfl rfl (List.mem_of_getElem? (i := 23) rfl) rfl ?_
  refine mi_s_if2 (t := 25) rfl rfl rfl (by unfold mi_R; omega) (by unfold mi_R; omega) (fun hc_ => absurd (show (mi_sF σ 44 3) ≤ a from hc_) (by omega)) (fun _ => ?_)
  refine mi_wp_p (pc' := 13) (st' := [.ref 44]) rfl rfl rfl ?_
  refine ty_s_gr S rfl rfl rfl (List.mem_of_getElem? (i := 56) rfl) ?_
  refine mi_wp_p (pc' := 17) (st' := [.int (Int32.ofInt a), .ref 47]) rfl rfl rfl ?_
  refine ty_s_bld (x := mi_sA σ 47 a) S rfl rfl (List.mem_of_getElem? (i := 31) rfl) (by decide) (Or.inr rfl) (by omega) (by omega) rfl ?_
  refine mi_s_if1 (t := 25) rfl rfl rfl (by unfold mi_R; omega) (fun _ => ?_) (fun hc_ => absurd (show (mi_sA σ 47 a) = 0 by omega) hc_)
  refine mi_wp_p (pc' := 26) (st' := [.int (Int32.ofInt 0)]) rfl rfl rfl ?_
  exact ty_s_ret S fr rfl rfl rfl rfl ⟨_, rfl, ⟨rfl, rfl⟩⟩
theorem sc_isGeneral1 {X : mi_X} {d : Nat} {σ : mi_Sg} {a : Int} (h0 : 0 ≤ a) (h1 : a < mi_sF σ 44 3) (h2 : mi_sF σ 44 3 ≤ 300) (h3 : mi_sA σ 47 a = 1) : ty_Ci X d mi_M88 [(0, .ref 44), (1, .int (Int32.ofInt a))] σ (fun x σ' => x = 1 ∧ σ' = σ) := by
  intro h S
  have fr := mi_Fm_rf h
  refine mi_wp_p (pc' := 1) (st' := [.int (Int32.ofInt a)]) rfl rfl rfl ?_
  refine mi_s_if1 (t := 25) rfl rfl rfl (by unfold mi_R; omega) (fun hc_ => absurd (show a < 0 from hc_) (by omega)) (fun _ => ?_)
  refine mi_wp_p (pc' := 5) (st' := [.int (Int32.ofInt a)]) rfl rfl rfl ?_
  refine mi_wp_p (pc' := 6) (st' := [.ref 44, .int (Int32.ofInt a)]) rfl rfl rfl ?_
  refine ty_s_gf (x := mi_sF σ 44 3) S rfl rfl rfl (List.mem_of_getElem? (i := 23) rfl) rfl ?_
  refine mi_s_if2 (t := 25) rfl rfl rfl (by unfold mi_R; omega) (by unfold mi_R; omega) (fun hc_ => absurd (show (mi_sF σ 44 3) ≤ a from hc_) (by omega)) (fun _ => ?_)
  refine mi_wp_p (pc' := 13) (st' := [.ref 44]) rfl rfl rfl ?_
  refine ty_s_gr S rfl rfl rfl (List.mem_of_getElem? (i := 56) rfl) ?_
  refine mi_wp_p (pc' := 17) (st' := [.int (Int32.ofInt a), .ref 47]) rfl rfl rfl ?_
  refine ty_s_bld (x := mi_sA σ 47 a) S rfl rfl (List.mem_of_getElem? (i := 31) rfl) (by decide) (Or.inr rfl) (by omega) (by omega) rfl ?_
  refine mi_s_if1 (t := 25) rfl rfl rfl (by unfold mi_R; omega) (fun hc_ => absurd (show (mi_sA σ 47 a) = 0 from hc_) (by omega)) (fun _ => ?_)
  refine mi_wp_p (pc' := 22) (st' := [.int (Int32.ofInt 1)]) rfl rfl rfl ?_
  refine mi_wp_p (pc' := 26) rfl rfl rfl ?_
  exact ty_s_ret S fr rfl rfl rfl rfl ⟨_, rfl, ⟨rfl, rfl⟩⟩
theorem sc_bind {X : mi_X} {d : Nat} {σ : mi_Sg} {key : Int64} {t b : Int} (h0 : 0 ≤ mi_sF σ 44 3) (h1 : mi_sF σ 44 3 < 300) (hb : b = 0 ∨ b = 1) : ty_Cv X d mi_M85 [(0, .ref 44), (1, .long key), (3, .int (Int32.ofInt t)), (4, .int (Int32.ofInt b))] σ (fun σ' => σ' = mi_uF (mi_uA (mi_uA (mi_uE σ 45 (mi_sF σ 44 3) key) 46 (mi_sF σ 44 3) t) 47 (mi_sF σ 44 3) b) 44 3 (mi_sF σ 44 3 + 1)) := by
  intro h S
  have fr := mi_Fm_rf h
  refine mi_wp_p (pc' := 1) (st' := [.ref 44]) rfl rfl rfl ?_
  refine ty_s_gf (x := mi_sF σ 44 3) S rfl rfl rfl (List.mem_of_getElem? (i := 23) rfl) rfl ?_
  refine mi_wp_p (pc' := 5) (st' := [.ref 44, .int (Int32.ofInt (mi_sF σ 44 3))]) rfl rfl rfl ?_
  refine ty_s_gr S rfl rfl rfl (List.mem_of_getElem? (i := 54) rfl) ?_
  refine ty_s_lnl S rfl rfl (List.mem_of_getElem? (i := 5) rfl) ?_
  refine mi_s_if2 (t := 53) rfl rfl rfl (by unfold mi_R; omega) (by unfold mi_R; omega) (fun hc_ => absurd (show 300 ≤ (mi_sF σ 44 3) from hc_) (by omega)) (fun _ => ?_)
  refine mi_wp_p (pc' := 13) (st' := [.ref 44]) rfl rfl rfl ?_
  refine ty_s_gr S rfl rfl rfl (List.mem_of_getElem? (i := 54) rfl) ?_
  refine mi_wp_p (pc' := 17) (st' := [.ref 44, .ref 45]) rfl rfl rfl ?_
  refine ty_s_gf (x := mi_sF σ 44 3) S rfl rfl rfl (List.mem_of_getElem? (i := 23) rfl) rfl ?_
  refine mi_wp_p (pc' := 21) (st' := [.long key, .int (Int32.ofInt (mi_sF σ 44 3)), .ref 45]) rfl rfl rfl ?_
  refine ty_s_lst S rfl rfl (List.mem_of_getElem? (i := 5) rfl) (by decide) (by decide) (by omega) (by omega) ?_
  intro h9 S f
  replace fr := mi_Fm_tr fr f
  refine mi_wp_p (pc' := 23) (st' := [.ref 44]) rfl rfl rfl ?_
  refine ty_s_gr S rfl rfl rfl (List.mem_of_getElem? (i := 55) rfl) ?_
  refine mi_wp_p (pc' := 27) (st' := [.ref 44, .ref 46]) rfl rfl rfl ?_
  refine ty_s_gf (x := mi_sF σ 44 3) S rfl rfl rfl (List.mem_of_getElem? (i := 23) rfl) rfl ?_
  refine mi_wp_p (pc' := 31) (st' := [.int (Int32.ofInt t), .int (Int32.ofInt (mi_sF σ 44 3)), .ref 46]) rfl rfl rfl ?_
  refine ty_s_ast S rfl rfl (List.mem_of_getElem? (i := 30) rfl) (by decide) (by decide) (by omega) (by omega) ?_
  intro h10 S f
  replace fr := mi_Fm_tr fr f
  refine mi_wp_p (pc' := 33) (st' := [.ref 44]) rfl rfl rfl ?_
  refine ty_s_gr S rfl rfl rfl (List.mem_of_getElem? (i := 56) rfl) ?_
  refine mi_wp_p (pc' := 37) (st' := [.ref 44, .ref 47]) rfl rfl rfl ?_
  refine ty_s_gf (x := mi_sF σ 44 3) S rfl rfl rfl (List.mem_of_getElem? (i := 23) rfl) rfl ?_
  refine mi_wp_p (pc' := 42) (st' := [.int (Int32.ofInt b), .int (Int32.ofInt (mi_sF σ 44 3)), .ref 47]) rfl rfl rfl ?_
  refine ty_s_zst S rfl rfl (List.mem_of_getElem? (i := 31) rfl) (by decide) (by decide) (by omega) (by omega) (by omega) ?_
  intro h11 S f
  replace fr := mi_Fm_tr fr f
  refine mi_wp_p (pc' := 44) (st' := [.ref 44]) rfl rfl rfl ?_
  refine mi_wp_p (pc' := 45) (st' := [.ref 44, .ref 44]) rfl rfl rfl ?_
  refine ty_s_gf (x := mi_sF σ 44 3) S rfl rfl rfl (List.mem_of_getElem? (i := 23) rfl) rfl ?_
  refine mi_wp_p (pc' := 49) (st' := [.int (Int32.ofInt 1), .int (Int32.ofInt (mi_sF σ 44 3)), .ref 44]) rfl rfl rfl ?_
  refine mi_s_add rfl rfl ?_
  refine ty_s_pf S rfl rfl rfl (List.mem_of_getElem? (i := 23) rfl) (by decide) mi_fit_int (Or.inl rfl) ?_
  intro h12 S f
  replace fr := mi_Fm_tr fr f
  exact ty_s_ret S fr rfl rfl rfl rfl ⟨rfl, rfl⟩
theorem sc_unbind {X : mi_X} {σ : mi_Sg} {d : Nat} {a : Int} (h0 : 0 ≤ a) (h1 : a ≤ mi_sF σ 44 3) (h2 : mi_sF σ 44 3 ≤ 300) : ty_Cv X (d + 1) mi_M92 [(0, .ref 44), (1, .int (Int32.ofInt a))] σ (fun σ' => σ' = mi_uF σ 44 3 (mi_sF σ 44 3 - a)) := by
  intro h S
  have fr := mi_Fm_rf h
  refine mi_wp_p (pc' := 1) (st' := [.ref 44]) rfl rfl rfl ?_
  refine mi_wp_p (pc' := 2) (st' := [.int (Int32.ofInt 0), .ref 44]) rfl rfl rfl ?_
  refine mi_wp_p (pc' := 3) (st' := [.ref 44, .int (Int32.ofInt 0), .ref 44]) rfl rfl rfl ?_
  refine ty_s_gf (x := mi_sF σ 44 3) S rfl rfl rfl (List.mem_of_getElem? (i := 23) rfl) rfl ?_
  refine mi_wp_p (pc' := 7) (st' := [.int (Int32.ofInt 0), .int (Int32.ofInt (mi_sF σ 44 3)), .int (Int32.ofInt 0), .ref 44]) rfl rfl rfl ?_
  refine mi_wp_p (pc' := 8) (st' := [.int (Int32.ofInt a), .int (Int32.ofInt 0), .int (Int32.ofInt (mi_sF σ 44 3)), .int (Int32.ofInt 0), .ref 44]) rfl rfl rfl ?_
  refine mi_s_mx rfl rfl rfl (Nat.le_of_ble_eq_true rfl) (by unfold mi_R; omega) (by unfold mi_R; omega) ?_
  refine mi_s_sub rfl rfl ?_
  refine mi_s_mx rfl rfl rfl (Nat.le_of_ble_eq_true rfl) (by unfold mi_R; omega) (by unfold mi_R; omega) ?_
  refine ty_s_pf S rfl rfl rfl (List.mem_of_getElem? (i := 23) rfl) (by decide) mi_fit_int (Or.inl rfl) ?_
  intro h13 S f
  replace fr := mi_Fm_tr fr f
  exact ty_s_ret S fr rfl rfl rfl rfl ⟨rfl, by rw [show max 0 (mi_sF σ 44 3 - max 0 a) = mi_sF σ 44 3 - a by omega]⟩
/-- the nearest place of a key, or -1 -/
def nr_P (σ : mi_Sg) (size : Int) (key : Int64) (x : Int) : Prop := ((0 ≤ x ∧ x < size) ∧ mi_sE σ 45 x = key ∧ ∀ j, x < j → j < size → mi_sE σ 45 j ≠ key) ∨ (x = -1 ∧ ∀ j, 0 ≤ j → j < size → mi_sE σ 45 j ≠ key)
theorem sc_nearest_l {X : mi_X} {d : Nat} {h0 : mi_H} {σ : mi_Sg} {key : Int64} (hs : mi_sF σ 44 3 ≤ 300) : ∀ (m : Nat) (i : Int), (i + 1).toNat = m → -1 ≤ i → i < mi_sF σ 44 3 → (∀ j, i < j → j < mi_sF σ 44 3 → mi_sE σ 45 j ≠ key) → ∀ h, ty_H h σ → mi_Fm h0 h → mi_wp X d mi_M90 7 [(3, .int (Int32.ofInt i)), (0, .ref 44), (1, .long key)] [] h 0 0 (fun z => ∃ v h' σ', z = (.inl v, h', 0, 0) ∧ ty_H h' σ' ∧ mi_Fm h0 h' ∧ ∃ x, v = some (.int (Int32.ofInt x)) ∧ nr_P σ (mi_sF σ 44 3) key x ∧ σ' = σ) := by
  intro m
  induction m using Nat.strongRecOn with
  | ind m ih =>
    intro i hm hi0 hi1 J h S fr
    refine mi_wp_p (pc' := 8) (st' := [.int (Int32.ofInt i)]) rfl rfl rfl ?_
    refine mi_s_if1 (t := 30) rfl rfl rfl (by unfold mi_R; omega) ?_ ?_
    · intro (c1 : i < 0)
      refine mi_wp_p (pc' := 31) (st' := [.int (Int32.ofInt (-1))]) rfl rfl rfl ?_
      exact ty_s_ret S fr rfl rfl rfl (mi_ret_i rfl) ⟨_, rfl, Or.inr ⟨rfl, fun j j0 j1 => J j (by omega) j1⟩, rfl⟩
    · intro (c1 : ¬ (i < 0))
      refine mi_wp_p (pc' := 12) (st' := [.ref 44]) rfl rfl rfl ?_
      refine ty_s_gr S rfl rfl rfl (List.mem_of_getElem? (i := 54) rfl) ?_
      refine mi_wp_p (pc' := 16) (st' := [.int (Int32.ofInt i), .ref 45]) rfl rfl rfl ?_
      refine ty_s_lld (x := mi_sE σ 45 i) S rfl rfl (List.mem_of_getElem? (i := 5) rfl) (by decide) (by omega) (by omega) rfl ?_
      refine mi_wp_p (pc' := 18) (st' := [.long key, .long (mi_sE σ 45 i)]) rfl rfl rfl ?_
      refine mi_s_lne (t := 24) rfl rfl rfl rfl rfl ?_ ?_
      · intro (c2 : mi_sE σ 45 i ≠ key)
        refine mi_s_inc (l' := [(3, .int (Int32.ofInt (i + (-1)))), (0, .ref 44), (1, .long key)]) rfl rfl rfl (by decide) rfl ?_
        refine mi_wp_p (pc' := 7) rfl rfl rfl ?_
        refine mi_wp_lw (l := [(3, .int (Int32.ofInt (i + (-1)))), (0, .ref 44), (1, .long key)]) (mi_lw_of (show List.Nodup [3, 0, 1] by decide) ⟨rfl, rfl, rfl, trivial⟩) ?_
        refine ih _ (by omega) (i + -1) rfl (by omega) (by omega) (fun j j0 j1 => ?_) _ S fr
        by_cases e : j = i
        · rw [e]; exact c2
        · exact J j (by omega) j1
      · intro (c2 : mi_sE σ 45 i = key)
        refine mi_wp_p (pc' := 23) (st' := [.int (Int32.ofInt i)]) rfl rfl rfl ?_
        exact ty_s_ret S fr rfl rfl rfl (mi_ret_i rfl) ⟨_, rfl, Or.inl ⟨⟨by omega, hi1⟩, c2, J⟩, rfl⟩
theorem sc_nearest {X : mi_X} {d : Nat} {σ : mi_Sg} {key : Int64} (h0 : 0 ≤ mi_sF σ 44 3) (hs : mi_sF σ 44 3 ≤ 300) : ty_Ci X d mi_M90 [(0, .ref 44), (1, .long key)] σ (fun x σ' => nr_P σ (mi_sF σ 44 3) key x ∧ σ' = σ) := by
  intro h S
  have fr := mi_Fm_rf h
  refine mi_wp_p (pc' := 1) (st' := [.ref 44]) rfl rfl rfl ?_
  refine ty_s_gf (x := mi_sF σ 44 3) S rfl rfl rfl (List.mem_of_getElem? (i := 23) rfl) rfl ?_
  refine mi_wp_p (pc' := 5) (st' := [.int (Int32.ofInt 1), .int (Int32.ofInt (mi_sF σ 44 3))]) rfl rfl rfl ?_
  refine mi_s_sub rfl rfl ?_
  refine mi_wp_p (pc' := 7) (l' := [(3, .int (Int32.ofInt ((mi_sF σ 44 3) - 1))), (0, .ref 44), (1, .long key)]) (st' := []) rfl rfl rfl ?_
  refine mi_wp_lw (l := [(3, .int (Int32.ofInt ((mi_sF σ 44 3) - 1))), (0, .ref 44), (1, .long key)]) (mi_lw_of (show List.Nodup [3, 0, 1] by decide) ⟨rfl, rfl, rfl, trivial⟩) ?_
  exact sc_nearest_l hs _ _ rfl (by omega) (by omega) (fun j a b => by omega) h S fr
theorem sc_gatherFixed0 {X : mi_X} {d : Nat} {σ : mi_Sg} {d : Nat} (h0 : mi_sF σ 44 3 = 0) : ty_Cv X d mi_M87 [(0, .ref 44), (1, .ref 9)] σ (fun σ' => σ' = σ) := by
  intro h S
  have fr := mi_Fm_rf h
  refine mi_wp_p (pc' := 1) (st' := [.int (Int32.ofInt 0)]) rfl rfl rfl ?_
  refine mi_wp_p (pc' := 2) (l' := [(2, .int (Int32.ofInt 0)), (0, .ref 44), (1, .ref 9)]) (st' := []) rfl rfl rfl ?_
  refine mi_wp_p (pc' := 3) (st' := [.int (Int32.ofInt 0)]) rfl rfl rfl ?_
  refine mi_wp_p (pc' := 4) (st' := [.ref 44, .int (Int32.ofInt 0)]) rfl rfl rfl ?_
  refine ty_s_gf (x := mi_sF σ 44 3) S rfl rfl rfl (List.mem_of_getElem? (i := 23) rfl) rfl ?_
  refine mi_s_if2 (t := 36) rfl rfl rfl (by unfold mi_R; omega) (by unfold mi_R; omega) (fun _ => ?_) (fun hc_ => absurd (show (mi_sF σ 44 3) ≤ (0 : Int) by omega) hc_)
  exact ty_s_ret S fr rfl rfl rfl rfl ⟨rfl, rfl⟩
