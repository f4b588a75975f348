/-! ===== sets of nodes: less of them, more of them; what stands in trees ===== -/
theorem vin_tn {v : Nat} {t : Int} {a b c : tr} : vin v (tn t a b c) ↔ vin v a ∨ vin v b ∨ vin v c := by
  show (False ∨ (vin v a ∨ (vin v b ∨ vin v c))) ↔ _
  exact ⟨fun h => h.elim False.elim id, Or.inr⟩
theorem vin_sb {θ : Nat → tr} {w : Nat} : ∀ e : tr, vin w (sb θ e) → ∃ v, vin v e ∧ vin w (θ v)
  | .num _, h => h.elim
  | .var v, h => ⟨v, rfl, h⟩
  | .add a b, h => by
    rcases h with h | h
    · obtain ⟨v, p, q⟩ := vin_sb a h
      exact ⟨v, Or.inl p, q⟩
    · obtain ⟨v, p, q⟩ := vin_sb b h
      exact ⟨v, Or.inr p, q⟩
  | .mul a b, h => by
    rcases h with h | h
    · obtain ⟨v, p, q⟩ := vin_sb a h
      exact ⟨v, Or.inl p, q⟩
    · obtain ⟨v, p, q⟩ := vin_sb b h
      exact ⟨v, Or.inr p, q⟩
theorem vin_sb' {θ : Nat → tr} {v w : Nat} (hw : vin w (θ v)) : ∀ e : tr, vin v e → vin w (sb θ e)
  | .num _, h => h.elim
  | .var u, h => by
    have h' : u = v := h
    rw [h']
    exact hw
  | .add a b, h => h.imp (vin_sb' hw a) (vin_sb' hw b)
  | .mul a b, h => h.imp (vin_sb' hw a) (vin_sb' hw b)
theorem ty_T_vin {σ : mi_Sg} {Sx : Int → Prop} {T : Int → tr} (H : ty_T σ Sx T) {v : Nat} : ∀ (m : Nat) (n : Int), (ns (T n)).toNat = m → Sx n → vin v (T n) → Sx (v : Int) ∧ (mi_sA σ 10 (v : Int) = 3 ∨ mi_sA σ 10 (v : Int) = 4) := by
  intro m
  induction m using Nat.strongRecOn with
  | ind m ih =>
  intro n hm hn hv
  obtain ⟨g1, g2, g3, g4, g5, g6, g7⟩ := H.2 n hn
  by_cases q : mi_sA σ 10 n = 3 ∨ mi_sA σ 10 n = 4
  · have e := (g5 q).1
    rw [e] at hv
    have hv' : n.toNat = v := hv
    have e2 : (v : Int) = n := by omega
    rw [e2]
    exact ⟨hn, q⟩
  · have q1 : mi_sA σ 10 n ≠ 3 := fun h => q (Or.inl h)
    have q2 : mi_sA σ 10 n ≠ 4 := fun h => q (Or.inr h)
    have e := g6 q1 q2
    have nt := ns_tn (mi_sA σ 10 n) (T (ty_K' σ n 0)) (T (ty_K' σ n 1)) (T (ty_K' σ n 2))
    rw [← e] at nt
    rw [e, vin_tn] at hv
    have kid : ∀ k, 0 ≤ k → k < 3 → ns (T (ty_K' σ n k)) < ns (T n) → vin v (T (ty_K' σ n k)) → Sx (v : Int) ∧ (mi_sA σ 10 (v : Int) = 3 ∨ mi_sA σ 10 (v : Int) = 4) := fun k k0 k1 hl hk => by
      rcases g4 k k0 k1 with e' | e'
      · rw [e', H.1] at hk
        exact hk.elim
      · exact ih _ (by have := ns_0 (T (ty_K' σ n k)); omega) _ rfl e' hk
    rcases hv with h | h | h
    · exact kid 0 (by omega) (by omega) nt.1 h
    · exact kid 1 (by omega) (by omega) nt.2.1 h
    · exact kid 2 (by omega) (by omega) nt.2.2 h
/-- the tree of a kid stands in that of its node -/
theorem ty_T_kid {σ : mi_Sg} {Sx : Int → Prop} {T : Int → tr} (H : ty_T σ Sx T) {n k : Int} (hn : Sx n) (k0 : 0 ≤ k) (k1 : k < 3) : T (ty_K' σ n k) = .num 0 ∨ ∃ a b c, T n = tn (mi_sA σ 10 n) a b c ∧ (k = 0 → T (ty_K' σ n k) = a) ∧ (k = 1 → T (ty_K' σ n k) = b) ∧ (k = 2 → T (ty_K' σ n k) = c) := by
  obtain ⟨g1, g2, g3, g4, g5, g6, g7⟩ := H.2 n hn
  by_cases q : mi_sA σ 10 n = 3 ∨ mi_sA σ 10 n = 4
  · rw [(g5 q).2 k k0 k1]
    exact Or.inl H.1
  · refine Or.inr ⟨_, _, _, g6 (fun h => q (Or.inl h)) (fun h => q (Or.inr h)), ?_, ?_, ?_⟩ <;> (intro e; rw [e])
theorem ty_T_kv {σ : mi_Sg} {Sx : Int → Prop} {T : Int → tr} (H : ty_T σ Sx T) {n k : Int} (hn : Sx n) (k0 : 0 ≤ k) (k1 : k < 3) {v : Nat} (h : vin v (T (ty_K' σ n k))) : vin v (T n) := by
  rcases ty_T_kid H hn k0 k1 with e | ⟨a, b, c, e, e0, e1, e2⟩
  · rw [e] at h
    exact h.elim
  · rw [e, vin_tn]
    obtain q | q | q : k = 0 ∨ k = 1 ∨ k = 2 := by omega
    · rw [e0 q] at h; exact Or.inl h
    · rw [e1 q] at h; exact Or.inr (Or.inl h)
    · rw [e2 q] at h; exact Or.inr (Or.inr h)
theorem ty_T_sub {σ : mi_Sg} {Sx : Int → Prop} {T : Int → tr} (H : ty_T σ Sx T) (P : tr → Prop) (hP : ∀ n k, Sx n → P (T n) → 0 ≤ k → k < 3 → Sx (ty_K' σ n k) → P (T (ty_K' σ n k))) : ty_T σ (fun n => Sx n ∧ P (T n)) T := by
  refine ⟨H.1, fun n hn => ?_⟩
  obtain ⟨g1, g2, g3, g4, g5, g6, g7⟩ := H.2 n hn.1
  refine ⟨g1, g2, g3, fun k k0 k1 => ?_, g5, g6, g7⟩
  rcases g4 k k0 k1 with e | e
  · exact Or.inl e
  · exact Or.inr ⟨e, hP n k hn.1 hn.2 k0 k1 e⟩
/-- only nodes whose variables are of V -/
theorem ty_T_vs {σ : mi_Sg} {Sx : Int → Prop} {T : Int → tr} (H : ty_T σ Sx T) (V : Nat → Prop) : ty_T σ (fun n => Sx n ∧ ∀ v, vin v (T n) → V v) T :=
  ty_T_sub H (fun e => ∀ v, vin v e → V v) fun _ _ hn hp k0 k1 _ v hv => hp v (ty_T_kv H hn k0 k1 hv)
theorem wt_5 {a b : tr} : wt (tn 5 a b tr_0) ↔ wt a ∧ wt b := by
  show (((5 : Int).toNat = 1 ∨ (5 : Int).toNat = 2) ∧ a = .num 0 ∧ b = .num 0 ∧ tr_0 = .num 0) ∨ (((5 : Int).toNat = 5 ∨ (5 : Int).toNat = 6) ∧ wt a ∧ wt b ∧ tr_0 = .num 0) ∨ ((5 : Int).toNat = 9 ∧ wt a ∧ b = .num 0 ∧ tr_0 = .num 0) ↔ _
  simp [tr_0]
theorem wt_6 {a b : tr} : wt (tn 6 a b tr_0) ↔ wt a ∧ wt b := by
  show (((6 : Int).toNat = 1 ∨ (6 : Int).toNat = 2) ∧ a = .num 0 ∧ b = .num 0 ∧ tr_0 = .num 0) ∨ (((6 : Int).toNat = 5 ∨ (6 : Int).toNat = 6) ∧ wt a ∧ wt b ∧ tr_0 = .num 0) ∨ ((6 : Int).toNat = 9 ∧ wt a ∧ b = .num 0 ∧ tr_0 = .num 0) ↔ _
  simp [tr_0]
theorem wt_9 {a : tr} : wt (tn 9 a tr_0 tr_0) ↔ wt a := by
  show (((9 : Int).toNat = 1 ∨ (9 : Int).toNat = 2) ∧ a = .num 0 ∧ tr_0 = .num 0 ∧ tr_0 = .num 0) ∨ (((9 : Int).toNat = 5 ∨ (9 : Int).toNat = 6) ∧ wt a ∧ wt tr_0 ∧ tr_0 = .num 0) ∨ ((9 : Int).toNat = 9 ∧ wt a ∧ tr_0 = .num 0 ∧ tr_0 = .num 0) ↔ _
  simp [tr_0]
theorem wt_1 : wt (tn 1 tr_0 tr_0 tr_0) := Or.inl ⟨Or.inl rfl, rfl, rfl, rfl⟩
theorem wt_2 : wt (tn 2 tr_0 tr_0 tr_0) := Or.inl ⟨Or.inr rfl, rfl, rfl, rfl⟩
theorem wt_0 : ¬ wt (.num 0) := fun h => h.elim
/-- substitution by types makes types of types -/
theorem wt_sb {θ : Nat → tr} : ∀ (m : Nat) (e : tr), hg e = m → wt e → (∀ v, vin v e → wt (θ v)) → wt (sb θ e) := by
  intro m
  induction m using Nat.strongRecOn with
  | ind m ih =>
  intro e hm h hv
  rcases wt_c h with ⟨v, rfl⟩ | (rfl | rfl) | ⟨a, b, wa, wb, rfl | rfl⟩ | ⟨a, wa, rfl⟩
  · exact hv v rfl
  · exact wt_1
  · exact wt_2
  · rw [hg_tn] at hm
    rw [sb_tn]
    exact wt_5.2 ⟨ih _ (by omega) a rfl wa (fun v q => hv v (vin_tn.2 (Or.inl q))), ih _ (by omega) b rfl wb (fun v q => hv v (vin_tn.2 (Or.inr (Or.inl q))))⟩
  · rw [hg_tn] at hm
    rw [sb_tn]
    exact wt_6.2 ⟨ih _ (by omega) a rfl wa (fun v q => hv v (vin_tn.2 (Or.inl q))), ih _ (by omega) b rfl wb (fun v q => hv v (vin_tn.2 (Or.inr (Or.inl q))))⟩
  · rw [hg_tn] at hm
    rw [sb_tn]
    exact wt_9.2 (ih _ (by omega) a rfl wa (fun v q => hv v (vin_tn.2 (Or.inl q))))
/-- only nodes whose trees are types -/
theorem ty_T_wt {σ : mi_Sg} {Sx : Int → Prop} {T : Int → tr} (H : ty_T σ Sx T) : ty_T σ (fun n => Sx n ∧ wt (T n)) T := by
  refine ty_T_sub H wt fun n k hn hw k0 k1 hk => ?_
  obtain ⟨g1, g2, g3, g4, g5, g6, g7⟩ := H.2 n hn
  have nz : ty_K' σ n k ≠ 0 := fun e => by
    have := (H.2 _ hk).1
    omega
  rcases ty_T_kid H hn k0 k1 with e | ⟨a, b, c, e, e0, e1, e2⟩
  · obtain ⟨t1, t2, t3, t4, t5, t6, t7⟩ := H.2 _ hk
    by_cases q : mi_sA σ 10 (ty_K' σ n k) = 3 ∨ mi_sA σ 10 (ty_K' σ n k) = 4
    · rw [(t5 q).1] at e
      exact absurd e (by simp)
    · rw [t6 (fun h => q (Or.inl h)) (fun h => q (Or.inr h))] at e
      exact absurd e tn_num
  · have hh : k < ar (mi_sA σ 10 n) := by
      refine Int.not_le.mp fun q => nz ((g7 k k0 k1).2 q)
    rw [e] at hw
    rcases wt_c hw with ⟨v, q⟩ | (q | q) | ⟨a', b', wa, wb, q | q⟩ | ⟨a', wa, q⟩
    · exact absurd q tn_var
    · have := (tn_inj q).1
      have e1' : mi_sA σ 10 n = 1 := by omega
      rw [e1'] at hh
      exact absurd hh (by have : ar 1 = 0 := rfl; omega)
    · have := (tn_inj q).1
      have e1' : mi_sA σ 10 n = 2 := by omega
      rw [e1'] at hh
      exact absurd hh (by have : ar 2 = 0 := rfl; omega)
    · obtain ⟨i1, i2, i3, i4⟩ := tn_inj q
      have e1' : mi_sA σ 10 n = 5 := by omega
      rw [e1'] at hh
      have h2 : ar 5 = 2 := rfl
      obtain z | z : k = 0 ∨ k = 1 := by omega
      · rw [e0 z, i2]; exact wa
      · rw [e1 z, i3]; exact wb
    · obtain ⟨i1, i2, i3, i4⟩ := tn_inj q
      have e1' : mi_sA σ 10 n = 6 := by omega
      rw [e1'] at hh
      have h2 : ar 6 = 2 := rfl
      obtain z | z : k = 0 ∨ k = 1 := by omega
      · rw [e0 z, i2]; exact wa
      · rw [e1 z, i3]; exact wb
    · obtain ⟨i1, i2, i3, i4⟩ := tn_inj q
      have e1' : mi_sA σ 10 n = 9 := by omega
      rw [e1'] at hh
      have h2 : ar 9 = 1 := rfl
      have z : k = 0 := by omega
      rw [e0 z, i2]; exact wa
/-- the tag of a node whose tree is a type -/
theorem ty_T_tag {σ : mi_Sg} {Sx : Int → Prop} {T : Int → tr} (H : ty_T σ Sx T) {n : Int} (hn : Sx n) (hw : wt (T n)) : mi_sA σ 10 n = 1 ∨ mi_sA σ 10 n = 2 ∨ mi_sA σ 10 n = 3 ∨ mi_sA σ 10 n = 4 ∨ mi_sA σ 10 n = 5 ∨ mi_sA σ 10 n = 6 ∨ mi_sA σ 10 n = 9 := by
  obtain ⟨g1, g2, g3, g4, g5, g6, g7⟩ := H.2 n hn
  by_cases q : mi_sA σ 10 n = 3 ∨ mi_sA σ 10 n = 4
  · omega
  · rw [g6 (fun h => q (Or.inl h)) (fun h => q (Or.inr h))] at hw
    rcases wt_c hw with ⟨v, q⟩ | (q | q) | ⟨a', b', wa, wb, q | q⟩ | ⟨a', wa, q⟩
    · exact absurd q tn_var
    all_goals (have := (tn_inj q).1; omega)
theorem ty_T_or {σ : mi_Sg} {S1 S2 : Int → Prop} {T : Int → tr} (H1 : ty_T σ S1 T) (H2 : ty_T σ S2 T) : ty_T σ (fun n => S1 n ∨ S2 n) T := by
  refine ⟨H1.1, fun n hn => ?_⟩
  rcases hn with hn | hn
  · obtain ⟨g1, g2, g3, g4, g5, g6, g7⟩ := H1.2 n hn
    exact ⟨g1, g2, g3, fun k k0 k1 => (g4 k k0 k1).imp id Or.inl, g5, g6, g7⟩
  · obtain ⟨g1, g2, g3, g4, g5, g6, g7⟩ := H2.2 n hn
    exact ⟨g1, g2, g3, fun k k0 k1 => (g4 k k0 k1).imp id Or.inr, g5, g6, g7⟩
theorem ty_T_f {σ σ' : mi_Sg} {Sx : Int → Prop} {T : Int → tr} (H : ty_T σ Sx T) (e8 : mi_sF σ' 9 8 = mi_sF σ 9 8) (e10 : mi_sA σ' 10 = mi_sA σ 10) (e11 : mi_sA σ' 11 = mi_sA σ 11) (e12 : mi_sA σ' 12 = mi_sA σ 12) : ty_T σ' Sx T := by
  unfold ty_T ty_K' ty_k at H ⊢
  rw [e8, e10, e11, e12]
  exact H
/-- unknowns become marks -/
theorem ty_T_mu {σ σ' : mi_Sg} {Sx : Int → Prop} {T : Int → tr} (H : ty_T σ Sx T) (e8 : mi_sF σ' 9 8 = mi_sF σ 9 8) (e11 : mi_sA σ' 11 = mi_sA σ 11) (e12 : mi_sA σ' 12 = mi_sA σ 12) (h : ∀ n, 0 < n → n < mi_sF σ 9 8 → mi_sA σ' 10 n = mi_sA σ 10 n ∨ (mi_sA σ 10 n = 3 ∧ mi_sA σ' 10 n = 4)) : ty_T σ' Sx T := by
  have eK : ∀ n k, ty_K' σ' n k = ty_K' σ n k := fun n k => by
    unfold ty_K' ty_k
    rw [e11, e12]
  refine ⟨H.1, fun n hn => ?_⟩
  obtain ⟨g1, g2, g3, g4, g5, g6, g7⟩ := H.2 n hn
  rw [e8, e12]
  simp only [eK]
  rcases h n g1.1 g1.2 with e | ⟨e, e'⟩
  · rw [e]
    exact ⟨g1, g2, g3, g4, g5, g6, g7⟩
  · rw [e'] 
    refine ⟨g1, g2, by omega, g4, fun _ => g5 (Or.inl e), fun _ q => absurd rfl q, fun k k0 k1 => ?_⟩
    have z := g7 k k0 k1
    rw [e] at z
    exact z
/-- an unknown stays where the most general unifier of a and b is laid over it -/
theorem ft_fix {θ θ1 : Nat → tr} {v : Nat} (h : sb θ (θ1 v) = θ v) (hv : θ v = .var v) (hi : ∀ w, θ w = .var v → w = v) : θ1 v = .var v := by
  rw [hv] at h
  cases hq : θ1 v with
  | num i => rw [hq] at h; exact absurd h (by simp [sb])
  | var w => rw [hq] at h; rw [hi w h]
  | add a b => rw [hq] at h; exact absurd h (by simp [sb])
  | mul a b => rw [hq] at h; exact absurd h (by simp [sb])
/-- if there is a unifier, fits says so -/
theorem ft_1 {σ σ' : mi_Sg} {Sx : Int → Prop} {T : Int → tr} {a b x : Int} {θ : Nat → tr} (Q : ft_Q Sx T a b σ x σ') (f : fx (mi_sA σ 10) θ) (u : sb θ (T a) = sb θ (T b)) : x = 1 := by
  rcases Q.2.2.2.2.2.2 with ⟨e, no⟩ | ⟨e, -⟩
  · exact absurd u (no θ f)
  · exact e
theorem RH_S {X : mi_X} {d : Nat} {h0 : mi_H} {Q : mi_Z → Prop} {n : Int} {σ : mi_Sg} (H : ∀ h, ty_H h σ → RH X d h0 Q n σ) : RH X d h0 Q n σ := fun h S f => H h S h S f
