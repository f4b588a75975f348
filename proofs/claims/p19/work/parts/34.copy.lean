/-! ===== copies (printed by wip/gen/p_copy.py) ===== -/
theorem ty_T_mono {σ : mi_Sg} {Sx : Int → Prop} {T : Int → tr} (H : ty_T σ Sx T) {x0 : Int} : ∀ (m : Nat) (x0 : Int), (ns (T x0)).toNat = m → Sx x0 → ∃ l : List Int, (l.length : Int) = pz (T x0) ∧ x0 ∈ l ∧ (∀ n ∈ l, Sx n ∧ pz (T n) ≤ pz (T x0)) ∧ ∀ n ∈ l, ∀ k, 0 ≤ k → k < 3 → ty_K' σ n k = 0 ∨ ty_K' σ n k ∈ l := by
  intro m
  induction m using Nat.strongRecOn with
  | ind m ih =>
    intro x0 hm hx
    have hp := pz_node H hx
    obtain ⟨g1, g2, g3, g4, g5, g6, g7⟩ := H.2 x0 hx
    have hz := ty_T_z H x0 hx g1.1 g1.2
    have p0 := pz_0 (T (ty_K' σ x0 0))
    have p1 := pz_0 (T (ty_K' σ x0 1))
    have p2 := pz_0 (T (ty_K' σ x0 2))
    have one : ∀ k, 0 ≤ k → k < 3 → ∃ l : List Int, (l.length : Int) = pz (T (ty_K' σ x0 k)) ∧ (ty_K' σ x0 k = 0 ∨ ty_K' σ x0 k ∈ l) ∧ (∀ n ∈ l, Sx n ∧ pz (T n) ≤ pz (T (ty_K' σ x0 k))) ∧ ∀ n ∈ l, ∀ k, 0 ≤ k → k < 3 → ty_K' σ n k = 0 ∨ ty_K' σ n k ∈ l := by
      intro k k0 k1
      by_cases e : ty_K' σ x0 k = 0
      · refine ⟨[], ?_, Or.inl e, (fun n hn => by cases hn), (fun n hn => by cases hn)⟩
        rw [e, H.1]
        rfl
      · have hk := hz k k0 k1 e
        have n0 := ns_0 (T (ty_K' σ x0 k))
        obtain ⟨l, a, b, c, d⟩ := ih (ns (T (ty_K' σ x0 k))).toNat (by dsimp only at hk; omega) _ rfl ((g4 k k0 k1).resolve_left e)
        exact ⟨l, a, Or.inr b, c, d⟩
    obtain ⟨l0, a0, b0, c0, d0⟩ := one 0 (by omega) (by omega)
    obtain ⟨l1, a1, b1, c1, d1⟩ := one 1 (by omega) (by omega)
    obtain ⟨l2, a2, b2, c2, d2⟩ := one 2 (by omega) (by omega)
    refine ⟨x0 :: (l0 ++ (l1 ++ l2)), ?_, List.mem_cons_self, fun n hn => ?_, fun n hn k k0 k1 => ?_⟩
    · simp only [List.length_cons, List.length_append]
      omega
    · simp only [List.mem_cons, List.mem_append] at hn
      rcases hn with rfl | hn | hn | hn
      · exact ⟨hx, Int.le_refl _⟩
      · have := c0 n hn
        exact ⟨this.1, by omega⟩
      · have := c1 n hn
        exact ⟨this.1, by omega⟩
      · have := c2 n hn
        exact ⟨this.1, by omega⟩
    · simp only [List.mem_cons, List.mem_append] at hn ⊢
      rcases hn with rfl | hn | hn | hn
      · obtain rfl | rfl | rfl : k = 0 ∨ k = 1 ∨ k = 2 := by omega
        · exact b0.imp id (fun q => Or.inr (Or.inl q))
        · exact b1.imp id (fun q => Or.inr (Or.inr (Or.inl q)))
        · exact b2.imp id (fun q => Or.inr (Or.inr (Or.inr q)))
      · exact (d0 n hn k k0 k1).imp id (fun q => Or.inr (Or.inl q))
      · exact (d1 n hn k k0 k1).imp id (fun q => Or.inr (Or.inr (Or.inl q)))
      · exact (d2 n hn k k0 k1).imp id (fun q => Or.inr (Or.inr (Or.inr q)))
/-- what a root reaches, as a list with as many places as the tree has parts -/
theorem ty_T_small {σ : mi_Sg} {Sx : Int → Prop} {T : Int → tr} (H : ty_T σ Sx T) {x0 : Int} (hx : Sx x0) : ∃ l : List Int, (l.length : Int) = pz (T x0) ∧ x0 ∈ l ∧ ty_T σ (fun n => n ∈ l) T ∧ ∀ n ∈ l, Sx n ∧ pz (T n) ≤ pz (T x0) := by
  obtain ⟨l, a, b, c, d⟩ := ty_T_mono (x0 := x0) H _ x0 rfl hx
  refine ⟨l, a, b, ⟨H.1, fun n hn => ?_⟩, c⟩
  obtain ⟨g1, g2, g3, g4, g5, g6, g7⟩ := H.2 n (c n hn).1
  exact ⟨g1, g2, g3, d n hn, g5, g6, g7⟩
theorem pg_l {α : Type} : ∀ (l : List α) (m : Nat) (f : Nat → α), (∀ i, i < m → f i ∈ l) → (∀ i j, i < j → j < m → f i ≠ f j) → m ≤ l.length := by
  intro l m f h hi
  classical
  refine pg_0 l.length m (fun i => l.findIdx (fun a => decide (a = f i))) (fun i hm => ?_) (fun i j hij hm e => ?_)
  · exact List.findIdx_lt_length_of_exists ⟨f i, h i hm, by simp⟩
  · have h1 : l.findIdx (fun a => decide (a = f i)) < l.length := List.findIdx_lt_length_of_exists ⟨f i, h i (by omega), by simp⟩
    have h2 : l.findIdx (fun a => decide (a = f j)) < l.length := List.findIdx_lt_length_of_exists ⟨f j, h j hm, by simp⟩
    have q1 := List.findIdx_getElem (w := h1)
    have q2 := List.findIdx_getElem (w := h2)
    simp only [decide_eq_true_eq] at q1 q2
    refine hi i j hij hm ?_
    rw [← q1, ← q2]
    congr 1
/-- at most as many nodes as the tree has parts -/
theorem ga_E_cnt {l : List Int} {x0 : Int} {σ0 σ : mi_Sg} (E : ga_E (fun n => n ∈ l) x0 σ0 σ) : mi_sF σ 9 10 ≤ l.length := by
  have := pg_l l (mi_sF σ 9 10).toNat (fun i => mi_sA σ 15 (i : Int)) (fun i hi => (ga_E_i E (by omega) (by omega)).2.1) (fun i j hij hj => ga_E_inj E (by omega) (by omega) (by omega))
  omega
/-- what stands in the tree of a gathered node is gathered ahead of it -/
theorem ga_E_vin {Sx : Int → Prop} {T : Int → tr} {x0 : Int} {σ0 σ : mi_Sg} (E : ga_E Sx x0 σ0 σ) (H : ty_T σ0 Sx T) {v : Nat} : ∀ (m : Nat) (i : Int), i.toNat = m → 0 ≤ i → i < mi_sF σ 9 10 → vin v (T (mi_sA σ 15 i)) → ∃ j, (0 ≤ j ∧ j ≤ i) ∧ mi_sA σ 15 j = (v : Int) ∧ (mi_sA σ0 10 (v : Int) = 3 ∨ mi_sA σ0 10 (v : Int) = 4) := by
  intro m
  induction m using Nat.strongRecOn with
  | ind m ih =>
    intro i hm h0 h1 hv
    obtain ⟨q1, q2, q3⟩ := ga_E_i E h0 h1
    obtain ⟨g1, g2, g3, g4, g5, g6, g7⟩ := H.2 _ q2
    by_cases e : mi_sA σ0 10 (mi_sA σ 15 i) = 3 ∨ mi_sA σ0 10 (mi_sA σ 15 i) = 4
    · rw [(g5 e).1] at hv
      have hv' : (mi_sA σ 15 i).toNat = v := hv
      have : mi_sA σ 15 i = (v : Int) := by omega
      exact ⟨i, ⟨h0, Int.le_refl _⟩, this, by rw [← this]; exact e⟩
    · rw [g6 (fun q => e (Or.inl q)) (fun q => e (Or.inr q))] at hv
      have kid : ∀ k, 0 ≤ k → k < 3 → vin v (T (ty_K' σ0 (mi_sA σ 15 i) k)) → ∃ j, (0 ≤ j ∧ j ≤ i) ∧ mi_sA σ 15 j = (v : Int) ∧ (mi_sA σ0 10 (v : Int) = 3 ∨ mi_sA σ0 10 (v : Int) = 4) := fun k k0 k1 hk => by
        rcases q3 k k0 k1 with w | ⟨j, ⟨j0, j1⟩, ej⟩
        · rw [w, H.1] at hk
          cases hk
        · rw [← ej] at hk
          obtain ⟨j', ⟨a, b⟩, c⟩ := ih j.toNat (by omega) j rfl j0 (by omega) hk
          exact ⟨j', ⟨a, by omega⟩, c⟩
      rcases hv with hv | hv | hv | hv
      · cases hv
      · exact kid 0 (by omega) (by omega) hv
      · exact kid 1 (by omega) (by omega) hv
      · exact kid 2 (by omega) (by omega) hv
/-- old nodes stay -/
def ty_X (σ σ' : mi_Sg) : Prop := mi_sF σ 9 8 ≤ mi_sF σ' 9 8 ∧ (∀ n, 0 < n → n < mi_sF σ 9 8 → mi_sA σ' 10 n = mi_sA σ 10 n ∧ mi_sA σ' 12 n = mi_sA σ 12 n ∧ ∀ k, 0 ≤ k → k < 3 → ty_k σ' n k = ty_k σ n k) ∧ mi_sA σ' 12 0 = mi_sA σ 12 0
theorem ty_X_tr {a b c : mi_Sg} (p : ty_X a b) (q : ty_X b c) : ty_X a c := by
  refine ⟨Int.le_trans p.1 q.1, fun n h0 h1 => ?_, q.2.2.trans p.2.2⟩
  obtain ⟨p1, p2, p3⟩ := p.2.1 n h0 h1
  obtain ⟨q1, q2, q3⟩ := q.2.1 n h0 (Int.lt_of_lt_of_le h1 p.1)
  exact ⟨q1.trans p1, q2.trans p2, fun k k0 k1 => (q3 k k0 k1).trans (p3 k k0 k1)⟩
theorem ty_X_K {σ σ' : mi_Sg} (p : ty_X σ σ') {n k : Int} (h0 : 0 < n) (h1 : n < mi_sF σ 9 8) (k0 : 0 ≤ k) (k1 : k < 3) (hk : 0 ≤ ty_k σ n k ∧ ty_k σ n k < mi_sF σ 9 8) : ty_K' σ' n k = ty_K' σ n k := by
  unfold ty_K'
  rw [(p.2.1 n h0 h1).2.2 k k0 k1]
  by_cases e : ty_k σ n k = 0
  · rw [e]; exact p.2.2
  · exact (p.2.1 _ (by omega) hk.2).2.1
theorem ty_X_T {σ σ' : mi_Sg} {Sx : Int → Prop} {T T' : Int → tr} (hu : 0 < mi_sF σ 9 8) (p : ty_X σ σ') (hk : ∀ n k, 0 < n → n < mi_sF σ 9 8 → 0 ≤ k → k < 3 → 0 ≤ ty_k σ n k ∧ ty_k σ n k < mi_sF σ 9 8) (H : ty_T σ Sx T) (hT : ∀ n, 0 ≤ n → n < mi_sF σ 9 8 → T' n = T n) : ty_T σ' Sx T' := by
  · refine ⟨(hT 0 (Int.le_refl _) hu).trans H.1, fun n hn => ?_⟩
    obtain ⟨g1, g2, g3, g4, g5, g6, g7⟩ := H.2 n hn
    obtain ⟨x1, x2, x3⟩ := p.2.1 n g1.1 g1.2
    have eK : ∀ k, 0 ≤ k → k < 3 → ty_K' σ' n k = ty_K' σ n k := fun k k0 k1 => ty_X_K p g1.1 g1.2 k0 k1 (hk n k g1.1 g1.2 k0 k1)
    have eT : ∀ k, 0 ≤ k → k < 3 → T' (ty_K' σ n k) = T (ty_K' σ n k) := fun k k0 k1 => by
      rcases g4 k k0 k1 with e | e
      · rw [e]; exact hT 0 (Int.le_refl _) hu
      · have := (H.2 _ e).1
        exact hT _ (by omega) this.2
    refine ⟨⟨g1.1, by have := p.1; omega⟩, by rw [x2]; exact g2, by rw [x1]; exact g3, fun k k0 k1 => by rw [eK k k0 k1]; exact g4 k k0 k1, fun q => ?_, fun q1 q2 => ?_, fun k k0 k1 => by rw [x1, eK k k0 k1]; exact g7 k k0 k1⟩
    · rw [x1] at q
      obtain ⟨w1, w2⟩ := g5 q
      exact ⟨(hT n (by omega) g1.2).trans w1, fun k k0 k1 => by rw [eK k k0 k1]; exact w2 k k0 k1⟩
    · rw [x1] at q1 q2 ⊢
      rw [hT n (by omega) g1.2, g6 q1 q2, eK 0 (by omega) (by omega), eK 1 (by omega) (by omega), eK 2 (by omega) (by omega), eT 0 (by omega) (by omega), eT 1 (by omega) (by omega), eT 2 (by omega) (by omega)]
/-- a new node, and its place among the others -/
theorem ty_mk_X {σ : mi_Sg} {g a b c : Int} (hu : 0 < mi_sF σ 9 8) : ty_X σ (ty_mk σ g a b c) ∧ mi_sA (ty_mk σ g a b c) 10 (mi_sF σ 9 8) = g ∧ mi_sA (ty_mk σ g a b c) 12 (mi_sF σ 9 8) = mi_sF σ 9 8 ∧ ty_k (ty_mk σ g a b c) (mi_sF σ 9 8) 0 = a ∧ ty_k (ty_mk σ g a b c) (mi_sF σ 9 8) 1 = b ∧ ty_k (ty_mk σ g a b c) (mi_sF σ 9 8) 2 = c ∧ (∀ i, i ≠ mi_sF σ 9 8 → mi_sA (ty_mk σ g a b c) 14 i = mi_sA σ 14 i) ∧ (∀ i, i ≠ mi_sF σ 9 8 → mi_sA (ty_mk σ g a b c) 13 i = mi_sA σ 13 i) ∧ mi_sA (ty_mk σ g a b c) 13 (mi_sF σ 9 8) = 0 ∧ mi_sF (ty_mk σ g a b c) 9 8 = mi_sF σ 9 8 + 1 := by
  refine ⟨⟨?_, fun n h0 h1 => ⟨?_, ?_, fun k k0 k1 => ?_⟩, ?_⟩, ?_, ?_, ?_, ?_, ?_, fun i hi => ?_, fun i hi => ?_, ?_, ?_⟩
  · simp [ty_mk, mi_FA, mi_FF]
    omega
  · simp [ty_mk, mi_AA, mi_AF, show n ≠ mi_sF σ 9 8 by omega]
  · simp [ty_mk, mi_AA, mi_AF, show n ≠ mi_sF σ 9 8 by omega]
  · unfold ty_k
    simp [ty_mk, mi_AA, mi_AF, show n * 3 + k ≠ mi_sF σ 9 8 * 3 by omega, show n * 3 + k ≠ mi_sF σ 9 8 * 3 + 1 by omega, show n * 3 + k ≠ mi_sF σ 9 8 * 3 + 2 by omega]
  · simp [ty_mk, mi_AA, mi_AF, show (0 : Int) ≠ mi_sF σ 9 8 by omega]
  · simp [ty_mk, mi_AA, mi_AF]
  · simp [ty_mk, mi_AA, mi_AF]
  · simp [ty_k, ty_mk, mi_AA, mi_AF, show mi_sF σ 9 8 * 3 ≠ mi_sF σ 9 8 * 3 + 1 by omega, show mi_sF σ 9 8 * 3 ≠ mi_sF σ 9 8 * 3 + 2 by omega]
  · simp [ty_k, ty_mk, mi_AA, mi_AF]
  · simp [ty_k, ty_mk, mi_AA, mi_AF]
  · simp [ty_mk, mi_AA, mi_AF, hi]
  · simp [ty_mk, mi_AA, mi_AF, hi]
  · simp [ty_mk, mi_AA, mi_AF]
  · simp [ty_mk, mi_FA, mi_FF]
/-- what a copy puts in the place of a variable -/
def cp_t (stay : Int) (σ2 : mi_Sg) (ν : Int → Int) (v : Nat) : tr := if mi_sA σ2 10 (v : Int) = 4 ∧ stay = 0 then .var (ν (v : Int)).toNat else .var v
/-- the first i nodes of the order are copied -/
def cp_J (stay : Int) (T T' : Int → tr) (σ2 σ : mi_Sg) (i : Int) : Prop := (ty_X σ2 σ ∧ sg_Af [10, 11, 12, 13, 14] [(9, 8)] σ2 σ ∧ ty_Z σ) ∧ (∀ n, 0 ≤ n → n < mi_sF σ2 9 8 → T' n = T n) ∧ mi_sF σ 9 8 ≤ mi_sF σ2 9 8 + i ∧ ty_T σ (fun n => ∃ j, (0 ≤ j ∧ j < i) ∧ mi_sA σ 14 (mi_sA σ2 15 j) = n) T' ∧ (∀ j, 0 ≤ j → j < i → T' (mi_sA σ 14 (mi_sA σ2 15 j)) = sb (cp_t stay σ2 (mi_sA σ 14)) (T (mi_sA σ2 15 j))) ∧ (stay = 0 → ∀ j, 0 ≤ j → j < i → mi_sA σ2 10 (mi_sA σ2 15 j) = 4 → mi_sF σ2 9 8 ≤ mi_sA σ 14 (mi_sA σ2 15 j) ∧ mi_sA σ 10 (mi_sA σ 14 (mi_sA σ2 15 j)) = 3) ∧ (stay = 0 → ∀ j j', 0 ≤ j → j < j' → j' < i → mi_sA σ2 10 (mi_sA σ2 15 j) = 4 → mi_sA σ2 10 (mi_sA σ2 15 j') = 4 → mi_sA σ 14 (mi_sA σ2 15 j) < mi_sA σ 14 (mi_sA σ2 15 j')) ∧ (∀ j, 0 ≤ j → j < i → mi_sA σ 10 (mi_sA σ 14 (mi_sA σ2 15 j)) = 3 ∨ 5 ≤ mi_sA σ 10 (mi_sA σ 14 (mi_sA σ2 15 j)) → mi_sF σ2 9 9 ≤ mi_sA σ 14 (mi_sA σ2 15 j))
theorem cp_step {stay x i : Int} {Sx : Int → Prop} {x0 : Int} {T T' T2 : Int → tr} {σ0 σ2 σ σ' : mi_Sg} (E : ga_E Sx x0 σ0 σ2) (H : ty_T σ0 Sx T) (J : cp_J stay T T' σ2 σ i) (h0 : 0 ≤ i) (h1 : i < mi_sF σ2 9 10) (hu : 0 < mi_sF σ2 9 8)
    (hX : ty_X σ σ') (hF : sg_Af [10, 11, 12, 13, 14] [(9, 8)] σ σ') (hZ : ty_Z σ') (h14 : ∀ n, 0 < n → n < mi_sF σ 9 8 → mi_sA σ' 14 n = mi_sA σ 14 n) (hu1 : mi_sF σ' 9 8 ≤ mi_sF σ 9 8 + 1)
    (hT2 : ∀ n, 0 ≤ n → n < mi_sF σ 9 8 → T2 n = T' n)
    (hx : (0 < x ∧ x < mi_sF σ' 9 8) ∧ mi_sA σ' 12 x = x ∧ ((1 ≤ mi_sA σ' 10 x ∧ mi_sA σ' 10 x ≤ 100) ∧ (mi_sA σ' 10 x ≤ 2 → x = mi_sA σ' 10 x)) ∧ (∀ k, 0 ≤ k → k < 3 → ty_K' σ' x k = 0 ∨ ∃ j, (0 ≤ j ∧ j < i) ∧ mi_sA σ 14 (mi_sA σ2 15 j) = ty_K' σ' x k) ∧ (mi_sA σ' 10 x = 3 ∨ mi_sA σ' 10 x = 4 → T2 x = .var x.toNat ∧ ∀ k, 0 ≤ k → k < 3 → ty_K' σ' x k = 0) ∧ (mi_sA σ' 10 x ≠ 3 → mi_sA σ' 10 x ≠ 4 → T2 x = tn (mi_sA σ' 10 x) (T2 (ty_K' σ' x 0)) (T2 (ty_K' σ' x 1)) (T2 (ty_K' σ' x 2))) ∧ (∀ k, 0 ≤ k → k < 3 → (ty_K' σ' x k = 0 ↔ ar (mi_sA σ' 10 x) ≤ k)))
    (hT : T2 x = sb (cp_t stay σ2 (fun n => if n = mi_sA σ2 15 i then x else mi_sA σ 14 n)) (T (mi_sA σ2 15 i)))
    (hm : stay = 0 → mi_sA σ2 10 (mi_sA σ2 15 i) = 4 → mi_sF σ 9 8 ≤ x ∧ mi_sA σ' 10 x = 3)
    (hl : mi_sA σ' 10 x = 3 ∨ 5 ≤ mi_sA σ' 10 x → mi_sF σ2 9 9 ≤ x) : cp_J stay T T2 σ2 (mi_uA σ' 14 (mi_sA σ2 15 i) x) (i + 1) := by
  obtain ⟨⟨J1, J2, J3⟩, J4, J5, J6, J7, J8, J9, J10⟩ := J
  obtain ⟨n1, n2, n3⟩ := ga_E_i E h0 h1
  have e8 := E.1.2.2 9 8 (by decide)
  have hX1 := J1.1
  have hnd : mi_sA σ2 15 i < mi_sF σ 9 8 := by omega
  have f14 : ∀ n, mi_sA (mi_uA σ' 14 (mi_sA σ2 15 i) x) 14 n = if n = mi_sA σ2 15 i then x else mi_sA σ' 14 n := fun n => by simp [mi_AA]
  have fo : ∀ j, 0 ≤ j → j < i → mi_sA (mi_uA σ' 14 (mi_sA σ2 15 i) x) 14 (mi_sA σ2 15 j) = mi_sA σ 14 (mi_sA σ2 15 j) := fun j j0 j1 => by
    have hne := ga_E_inj E j0 j1 h1
    have := (ga_E_i E j0 (by omega)).1
    rw [f14, if_neg hne, h14 _ this.1 (by omega)]
  have fi : mi_sA (mi_uA σ' 14 (mi_sA σ2 15 i) x) 14 (mi_sA σ2 15 i) = x := by rw [f14, if_pos rfl]
  have A10 : mi_sA (mi_uA σ' 14 (mi_sA σ2 15 i) x) 10 = mi_sA σ' 10 := funext (fun n => by simp [mi_AA])
  have A12 : mi_sA (mi_uA σ' 14 (mi_sA σ2 15 i) x) 12 = mi_sA σ' 12 := funext (fun n => by simp [mi_AA])
  have A11 : mi_sA (mi_uA σ' 14 (mi_sA σ2 15 i) x) 11 = mi_sA σ' 11 := funext (fun n => by simp [mi_AA])
  have A13 : mi_sA (mi_uA σ' 14 (mi_sA σ2 15 i) x) 13 = mi_sA σ' 13 := funext (fun n => by simp [mi_AA])
  have eK : ty_K' (mi_uA σ' 14 (mi_sA σ2 15 i) x) = ty_K' σ' := by
    funext n k
    unfold ty_K' ty_k
    rw [A11, A12]
  have ek : ty_k (mi_uA σ' 14 (mi_sA σ2 15 i) x) = ty_k σ' := by
    funext n k
    unfold ty_k
    rw [A11]
  have HT := ty_X_T (T' := T2) (by omega) hX J3.2.1 J6 hT2
  have img : ∀ j, 0 ≤ j → j < i → 0 < mi_sA σ 14 (mi_sA σ2 15 j) ∧ mi_sA σ 14 (mi_sA σ2 15 j) < mi_sF σ 9 8 := fun j j0 j1 => (J6.2 _ ⟨j, ⟨j0, j1⟩, rfl⟩).1
  refine ⟨⟨?_, ?_, ?_⟩, fun n q0 q1 => ?_, ?_, ⟨HT.1, fun n hn => ?_⟩, fun j j0 j1 => ?_, fun hs j j0 j1 hj => ?_, fun hs j j' j0 j1 j2 hj hj' => ?_, fun j j0 j1 hj => ?_⟩
  · have := ty_X_tr J1 hX
    refine ⟨this.1, fun n a b => ?_, by rw [A12]; exact this.2.2⟩
    rw [A10, A12, ek]
    exact this.2.1 n a b
  · exact sg_Af_A (sg_Af_tr J2 hF) (by decide)
  · obtain ⟨z1, z2, z3, z4⟩ := hZ
    refine ⟨z1, by rw [ek]; exact z2, by rw [A13]; exact z3, by rw [A13]; exact z4.1, by rw [A10]; exact z4.2⟩
  · rw [hT2 n q0 (by omega)]
    exact J4 n q0 q1
  · show mi_sF σ' 9 8 ≤ _
    omega
  · obtain ⟨j, ⟨j0, j1⟩, hj⟩ := hn
    rw [A10, A12, eK]
    show (0 < n ∧ n < mi_sF σ' 9 8) ∧ _
    have lift : ∀ w, (∃ j, (0 ≤ j ∧ j < i) ∧ mi_sA σ 14 (mi_sA σ2 15 j) = w) → ∃ j, (0 ≤ j ∧ j < i + 1) ∧ mi_sA (mi_uA σ' 14 (mi_sA σ2 15 i) x) 14 (mi_sA σ2 15 j) = w := fun w ⟨j, ⟨j0, j1⟩, hw⟩ => ⟨j, ⟨j0, by omega⟩, by rw [fo j j0 j1]; exact hw⟩
    by_cases e : j = i
    · rw [e, fi] at hj
      rw [← hj]
      obtain ⟨x1, x2, x3, x4, x5, x6, x7⟩ := hx
      exact ⟨x1, x2, x3, fun k k0 k1 => (x4 k k0 k1).imp id (lift _), x5, x6, x7⟩
    · rw [fo j j0 (by omega)] at hj
      obtain ⟨x1, x2, x3, x4, x5, x6, x7⟩ := HT.2 n ⟨j, ⟨j0, by omega⟩, hj⟩
      exact ⟨x1, x2, x3, fun k k0 k1 => (x4 k k0 k1).imp id (lift _), x5, x6, x7⟩
  · by_cases e : j = i
    · rw [e, fi, hT]
      refine sb_ext _ (fun v hv => ?_)
      unfold cp_t
      by_cases c : mi_sA σ2 10 (v : Int) = 4 ∧ stay = 0
      · rw [if_pos c, if_pos c, f14]
        dsimp only
        by_cases e2 : (v : Int) = mi_sA σ2 15 i
        · rw [if_pos e2, if_pos e2]
        · obtain ⟨j', ⟨a, b⟩, ej, -⟩ := ga_E_vin E H _ i rfl h0 h1 hv
          have hj' := (ga_E_i E a (by omega)).1
          rw [if_neg e2, if_neg e2, h14 _ (by omega) (by omega)]
      · rw [if_neg c, if_neg c]
    · rw [fo j j0 (by omega), hT2 _ (by have := img j j0 (by omega); omega) (img j j0 (by omega)).2, J7 j j0 (by omega)]
      refine sb_ext _ (fun v hv => ?_)
      obtain ⟨j', ⟨a, b⟩, ej, -⟩ := ga_E_vin E H _ j rfl j0 (by omega) hv
      unfold cp_t
      rw [← ej, fo j' a (by omega)]
  · rw [A10]
    by_cases e : j = i
    · rw [e] at hj
      rw [e, fi]
      have := hm hs hj
      exact ⟨by omega, this.2⟩
    · rw [fo j j0 (by omega)]
      have := J8 hs j j0 (by omega) hj
      have hi := img j j0 (by omega)
      exact ⟨this.1, by rw [(hX.2.1 _ hi.1 hi.2).1]; exact this.2⟩
  · by_cases e : j' = i
    · rw [e] at hj'
      have := hm hs hj'
      have hi := img j j0 (by omega)
      rw [e, fi, fo j j0 (by omega)]
      omega
    · rw [fo j j0 (by omega), fo j' (by omega) (by omega)]
      exact J9 hs j j' j0 j1 (by omega) hj hj'
  · rw [A10] at hj
    by_cases e : j = i
    · rw [e, fi] at hj ⊢
      exact hl hj
    · rw [fo j j0 (by omega)] at hj ⊢
      have hi := img j j0 (by omega)
      rw [(hX.2.1 _ hi.1 hi.2).1] at hj
      exact J10 j j0 (by omega) hj
/-- the kids of the next node, copied -/
theorem cp_kid {stay i : Int} {Sx : Int → Prop} {x0 x : Int} {T T' : Int → tr} {σ0 σ2 σ : mi_Sg} (E : ga_E Sx x0 σ0 σ2) (Z : ty_Z σ0) (H : ty_T σ0 Sx T) (J : cp_J stay T T' σ2 σ i) (h0 : 0 ≤ i) (h1 : i < mi_sF σ2 9 10) {k : Int} (k0 : 0 ≤ k) (k1 : k < 3) : ty_K' σ (mi_sA σ2 15 i) k = ty_K' σ0 (mi_sA σ2 15 i) k ∧ ((ty_K' σ0 (mi_sA σ2 15 i) k = 0 ∧ T (ty_K' σ0 (mi_sA σ2 15 i) k) = .num 0) ∨ (ty_K' σ0 (mi_sA σ2 15 i) k ≠ 0 ∧ (∃ j, (0 ≤ j ∧ j < i) ∧ mi_sA σ2 15 j = ty_K' σ0 (mi_sA σ2 15 i) k) ∧ T' (mi_sA σ 14 (ty_K' σ0 (mi_sA σ2 15 i) k)) = sb (cp_t stay σ2 (fun n => if n = mi_sA σ2 15 i then x else mi_sA σ 14 n)) (T (ty_K' σ0 (mi_sA σ2 15 i) k)))) := by
  obtain ⟨⟨J1, J2, J3⟩, J4, J5, J6, J7, J8, J9, J10⟩ := J
  obtain ⟨n1, n2, n3⟩ := ga_E_i E h0 h1
  have e8 := E.1.2.2 9 8 (by decide)
  have eK2 : ty_K' σ (mi_sA σ2 15 i) k = ty_K' σ2 (mi_sA σ2 15 i) k := by
    refine ty_X_K J1 n1.1 (by omega) k0 k1 ?_
    exact (ga_E_Z E Z).2.1 _ k n1.1 (by omega) k0 k1
  rw [ga_E_K E] at eK2
  refine ⟨eK2, ?_⟩
  rcases n3 k k0 k1 with e | ⟨j, ⟨j0, j1⟩, ej⟩
  · exact Or.inl ⟨e, by rw [e]; exact H.1⟩
  · by_cases e : ty_K' σ0 (mi_sA σ2 15 i) k = 0
    · exact Or.inl ⟨e, by rw [e]; exact H.1⟩
    · refine Or.inr ⟨e, ⟨j, ⟨j0, j1⟩, ej⟩, ?_⟩
      rw [← ej, J7 j j0 j1]
      refine sb_ext _ (fun v hv => ?_)
      obtain ⟨j', ⟨a, b⟩, ej', -⟩ := ga_E_vin E H _ j rfl j0 (by omega) hv
      have hne := ga_E_inj E a (show j' < i by omega) h1
      unfold cp_t
      dsimp only
      rw [← ej', if_neg hne]
theorem ty_mk_Z {σ : mi_Sg} {g a b c : Int} (Z : ty_Z σ) (hu : 0 < mi_sF σ 9 8) (ha : 0 ≤ a ∧ a < mi_sF σ 9 8) (hb : 0 ≤ b ∧ b < mi_sF σ 9 8) (hc : 0 ≤ c ∧ c < mi_sF σ 9 8) : ty_Z (ty_mk σ g a b c) := by
  obtain ⟨z1, z2, z3, z4⟩ := Z
  obtain ⟨X, m1, m2, m3, m4, m5, m6, m7, m8, m9⟩ := ty_mk_X (σ := σ) (g := g) (a := a) (b := b) (c := c) hu
  have e11 : mi_sF (ty_mk σ g a b c) 9 11 = mi_sF σ 9 11 := by simp [ty_mk, mi_FA, mi_FF]
  refine ⟨by omega, fun n k h0 h1 k0 k1 => ?_, fun n h0 h1 => ?_, ?_⟩
  · by_cases e : n = mi_sF σ 9 8
    · rw [e]
      obtain rfl | rfl | rfl : k = 0 ∨ k = 1 ∨ k = 2 := by omega
      · rw [m3]; omega
      · rw [m4]; omega
      · rw [m5]; omega
    · rw [(X.2.1 n h0 (by omega)).2.2 k k0 k1]
      have := z2 n k h0 (by omega) k0 k1
      omega
  · rw [e11]
    by_cases e : n = mi_sF σ 9 8
    · rw [e, m8]; omega
    · rw [m7 n e]
      exact z3 n h0 (by omega)
  · refine ⟨by rw [m7 0 (by omega)]; exact z4.1, ?_⟩
    have : mi_sA (ty_mk σ g a b c) 10 0 = mi_sA σ 10 0 := by simp [ty_mk, mi_AA, mi_AF, show (0 : Int) ≠ mi_sF σ 9 8 by omega]
    rw [this]
    exact z4.2
theorem ty_mk_F {σ : mi_Sg} {g a b c : Int} : sg_Af [10, 11, 12, 13, 14] [(9, 8)] σ (ty_mk σ g a b c) := by
  unfold ty_mk
  exact sg_Af_A (sg_Af_A (sg_Af_A (sg_Af_A (sg_Af_A (sg_Af_A (sg_Af_A (sg_Af_F sg_Af_rf (by decide)) (by decide)) (by decide)) (by decide)) (by decide)) (by decide)) (by decide)) (by decide)
/-- a new node in the rows: its kids -/
theorem ty_mk_K {σ : mi_Sg} {g a b c : Int} (hu : 0 < mi_sF σ 9 8) (h0 : mi_sA σ 12 0 = 0) {k v : Int} (hv : (k = 0 ∧ v = a) ∨ (k = 1 ∧ v = b) ∨ (k = 2 ∧ v = c)) (hr : v = 0 ∨ ((0 < v ∧ v < mi_sF σ 9 8) ∧ mi_sA σ 12 v = v)) : ty_K' (ty_mk σ g a b c) (mi_sF σ 9 8) k = v := by
  obtain ⟨X, m1, m2, m3, m4, m5, m6, m7, m8, m9⟩ := ty_mk_X (σ := σ) (g := g) (a := a) (b := b) (c := c) hu
  have ek : ty_k (ty_mk σ g a b c) (mi_sF σ 9 8) k = v := by
    rcases hv with ⟨rfl, rfl⟩ | ⟨rfl, rfl⟩ | ⟨rfl, rfl⟩
    · exact m3
    · exact m4
    · exact m5
  unfold ty_K'
  rw [ek]
  rcases hr with rfl | ⟨q1, q2⟩
  · rw [X.2.2, h0]
  · rw [(X.2.1 v q1.1 q1.2).2.1, q2]
/-- what twinOf does -/
def tw_P (stay nd N0 N1 N2 : Int) (σ : mi_Sg) (x : Int) (σ' : mi_Sg) : Prop := (x = nd ∧ σ' = σ ∧ (mi_sA σ 10 nd ≤ 3 ∨ (mi_sA σ 10 nd = 4 ∧ stay = 1) ∨ (5 ≤ mi_sA σ 10 nd ∧ N0 = ty_K' σ nd 0 ∧ N1 = ty_K' σ nd 1 ∧ N2 = ty_K' σ nd 2 ∧ mi_sF σ 9 9 ≤ nd))) ∨ (x = mi_sF σ 9 8 ∧ ((mi_sA σ 10 nd = 4 ∧ stay = 0 ∧ σ' = ty_mk σ 3 0 0 0) ∨ (5 ≤ mi_sA σ 10 nd ∧ σ' = ty_mk σ (mi_sA σ 10 nd) N0 N1 N2)))
def tw_N (σ : mi_Sg) (nd k : Int) : Int := if ty_K' σ nd k = 0 then 0 else mi_sA σ 14 (ty_K' σ nd k)
theorem cp_next {stay x i : Int} {Sx : Int → Prop} {x0 : Int} {T T' : Int → tr} {σ0 σ2 σ σ1 : mi_Sg} (E : ga_E Sx x0 σ0 σ2) (Z : ty_Z σ0) (H : ty_T σ0 Sx T) (J : cp_J stay T T' σ2 σ i) (h0 : 0 ≤ i) (h1 : i < mi_sF σ2 9 10) (hu : 0 < mi_sF σ2 9 8) (hz : mi_sA σ 12 0 = 0) (hf : mi_sF σ2 9 9 ≤ mi_sF σ2 9 8) (hU : ∀ n, Sx n → mi_sA σ0 10 n = 3 → mi_sF σ2 9 9 ≤ n)
    (P : tw_P stay (mi_sA σ2 15 i) (tw_N σ (mi_sA σ2 15 i) 0) (tw_N σ (mi_sA σ2 15 i) 1) (tw_N σ (mi_sA σ2 15 i) 2) σ x σ1) : ∃ T2, cp_J stay T T2 σ2 (mi_uA σ1 14 (mi_sA σ2 15 i) x) (i + 1) := by
  obtain ⟨n1, n2, n3⟩ := ga_E_i E h0 h1
  obtain ⟨g1, g2, g3, g4, g5, g6, g7⟩ := H.2 _ n2
  have J' := J
  obtain ⟨⟨J1, J2, J3⟩, J4, J5, J6, J7, J8, J9, J10⟩ := J'
  have e8 := E.1.2.2 9 8 (by decide)
  have eF9 : mi_sF σ 9 9 = mi_sF σ2 9 9 := J2.2.2 9 9 (by decide)
  have hX1 := J1.1
  have nX := J1.2.1 _ n1.1 (by omega)
  have t2 : mi_sA σ2 10 (mi_sA σ2 15 i) = mi_sA σ0 10 (mi_sA σ2 15 i) := E.1.2.1 10 _ (by decide)
  have tg : mi_sA σ 10 (mi_sA σ2 15 i) = mi_sA σ0 10 (mi_sA σ2 15 i) := nX.1.trans t2
  have rt : mi_sA σ 12 (mi_sA σ2 15 i) = mi_sA σ2 15 i := nX.2.1.trans ((E.1.2.1 12 _ (by decide)).trans g2)
  have kd := fun k k0 k1 => cp_kid (x := x) E Z H J h0 h1 (k := k) k0 k1
  -- the copies of the kids
  have kN : ∀ k, 0 ≤ k → k < 3 → (tw_N σ (mi_sA σ2 15 i) k = 0 ∧ ty_K' σ0 (mi_sA σ2 15 i) k = 0 ∧ T (ty_K' σ0 (mi_sA σ2 15 i) k) = .num 0) ∨ (ty_K' σ0 (mi_sA σ2 15 i) k ≠ 0 ∧ (∃ j, (0 ≤ j ∧ j < i) ∧ mi_sA σ 14 (mi_sA σ2 15 j) = tw_N σ (mi_sA σ2 15 i) k) ∧ T' (tw_N σ (mi_sA σ2 15 i) k) = sb (cp_t stay σ2 (fun n => if n = mi_sA σ2 15 i then x else mi_sA σ 14 n)) (T (ty_K' σ0 (mi_sA σ2 15 i) k))) := fun k k0 k1 => by
    obtain ⟨q1, q2⟩ := kd k k0 k1
    unfold tw_N
    rw [q1]
    rcases q2 with ⟨w1, w2⟩ | ⟨w1, ⟨j, w2, w3⟩, w4⟩
    · exact Or.inl ⟨if_pos w1, w1, w2⟩
    · rw [if_neg w1]
      exact Or.inr ⟨w1, ⟨j, w2, by rw [w3]⟩, w4⟩
  have kR : ∀ k, 0 ≤ k → k < 3 → tw_N σ (mi_sA σ2 15 i) k = 0 ∨ ((0 < tw_N σ (mi_sA σ2 15 i) k ∧ tw_N σ (mi_sA σ2 15 i) k < mi_sF σ 9 8) ∧ mi_sA σ 12 (tw_N σ (mi_sA σ2 15 i) k) = tw_N σ (mi_sA σ2 15 i) k) := fun k k0 k1 => by
    rcases kN k k0 k1 with ⟨w, -⟩ | ⟨-, w, -⟩
    · exact Or.inl w
    · have := J6.2 _ w
      exact Or.inr ⟨this.1, this.2.1⟩
  have kT : ∀ k, 0 ≤ k → k < 3 → T' (tw_N σ (mi_sA σ2 15 i) k) = sb (cp_t stay σ2 (fun n => if n = mi_sA σ2 15 i then x else mi_sA σ 14 n)) (T (ty_K' σ0 (mi_sA σ2 15 i) k)) := fun k k0 k1 => by
    rcases kN k k0 k1 with ⟨w1, w2, w3⟩ | ⟨-, -, w⟩
    · rw [w1, w3, J6.1]
      rfl
    · exact w
  rcases P with ⟨rfl, es, hc⟩ | ⟨rfl, ⟨hc1, hc2, rfl⟩ | ⟨hc, rfl⟩⟩
  · -- the node itself
    obtain rfl := es.symm
    have eTn : T' (mi_sA σ2 15 i) = T (mi_sA σ2 15 i) := J4 _ (by omega) (by omega)
    have eTk : ∀ k, 0 ≤ k → k < 3 → T' (ty_K' σ0 (mi_sA σ2 15 i) k) = T (ty_K' σ0 (mi_sA σ2 15 i) k) := fun k k0 k1 => by
      rcases g4 k k0 k1 with e | e
      · rw [e]; exact J4 0 (by omega) (by omega)
      · have := (H.2 _ e).1
        exact J4 _ (by omega) (by omega)
    have eK : ∀ k, 0 ≤ k → k < 3 → ty_K' σ (mi_sA σ2 15 i) k = ty_K' σ0 (mi_sA σ2 15 i) k := fun k k0 k1 => (kd k k0 k1).1
    have same : 5 ≤ mi_sA σ0 10 (mi_sA σ2 15 i) → ∀ k, 0 ≤ k → k < 3 → tw_N σ (mi_sA σ2 15 i) k = ty_K' σ0 (mi_sA σ2 15 i) k := fun q k k0 k1 => by
      rcases hc with c | ⟨c, -⟩ | ⟨-, c0, c1, c2, -⟩
      · omega
      · omega
      · rw [← eK k k0 k1]
        obtain rfl | rfl | rfl : k = 0 ∨ k = 1 ∨ k = 2 := by omega
        · exact c0
        · exact c1
        · exact c2
    refine ⟨T', cp_step E H J h0 h1 hu ⟨Int.le_refl _, fun n _ _ => ⟨rfl, rfl, fun _ _ _ => rfl⟩, rfl⟩ sg_Af_rf J3 (fun n _ _ => rfl) (by omega) (fun n _ _ => rfl) ⟨⟨n1.1, by omega⟩, rt, by rw [tg]; exact g3, fun k k0 k1 => ?_, fun q => ?_, fun q1 q2 => ?_, fun k k0 k1 => ?_⟩ ?_ (fun s4 q4 => ?_) (fun q => ?_)⟩
    · rw [eK k k0 k1]
      by_cases q5 : 5 ≤ mi_sA σ0 10 (mi_sA σ2 15 i)
      · rcases kN k k0 k1 with ⟨-, w, -⟩ | ⟨-, w, -⟩
        · exact Or.inl w
        · rw [← same q5 k k0 k1]; exact Or.inr w
      · by_cases q3 : mi_sA σ0 10 (mi_sA σ2 15 i) ≤ 2
        · exact Or.inl ((g7 k k0 k1).mpr (by rw [ar_0 (by omega)]; exact k0))
        · exact Or.inl ((g5 (by omega)).2 k k0 k1)
    · rw [tg] at q
      obtain ⟨w1, w2⟩ := g5 q
      exact ⟨eTn.trans w1, fun k k0 k1 => (eK k k0 k1).trans (w2 k k0 k1)⟩
    · rw [tg] at q1 q2 ⊢
      rw [eTn, eK 0 (by omega) (by omega), eK 1 (by omega) (by omega), eK 2 (by omega) (by omega), eTk 0 (by omega) (by omega), eTk 1 (by omega) (by omega), eTk 2 (by omega) (by omega)]
      exact g6 q1 q2
    · rw [tg, eK k k0 k1]
      exact g7 k k0 k1
    · rw [eTn]
      by_cases q5 : 5 ≤ mi_sA σ0 10 (mi_sA σ2 15 i)
      · have eT := g6 (by omega) (by omega)
        have hk : ∀ k, 0 ≤ k → k < 3 → sb (cp_t stay σ2 (fun n => if n = mi_sA σ2 15 i then mi_sA σ2 15 i else mi_sA σ 14 n)) (T (ty_K' σ0 (mi_sA σ2 15 i) k)) = T (ty_K' σ0 (mi_sA σ2 15 i) k) := fun k k0 k1 => by
          rw [← kT k k0 k1, same q5 k k0 k1, eTk k k0 k1]
        rw [eT, sb_tn, hk 0 (by omega) (by omega), hk 1 (by omega) (by omega), hk 2 (by omega) (by omega)]
      · by_cases q3 : mi_sA σ0 10 (mi_sA σ2 15 i) ≤ 2
        · have g8 : ∀ k, 0 ≤ k → k < 3 → ty_K' σ0 (mi_sA σ2 15 i) k = 0 := fun k k0 k1 => (g7 k k0 k1).mpr (by rw [ar_0 (by omega)]; exact k0)
          rw [g6 (by omega) (by omega), g8 0 (by omega) (by omega), g8 1 (by omega) (by omega), g8 2 (by omega) (by omega), H.1]
          rfl
        · rw [(g5 (by omega)).1]
          show _ = cp_t stay σ2 _ _
          unfold cp_t
          have : (((mi_sA σ2 15 i).toNat : Nat) : Int) = mi_sA σ2 15 i := by omega
          rw [this, t2, if_neg (by rw [tg] at hc; omega)]
    · rw [t2] at q4
      rw [tg] at hc
      omega
    · rw [tg] at q hc
      rcases q with q | q
      · exact hU _ n2 q
      · rw [← eF9]; omega
  · -- a mark becomes unknown
    obtain ⟨X, m1, m2, m3, m4, m5, m6, m7, m8, m9⟩ := ty_mk_X (σ := σ) (g := 3) (a := 0) (b := 0) (c := 0) (by omega)
    have mK : ∀ k, 0 ≤ k → k < 3 → ty_K' (ty_mk σ 3 0 0 0) (mi_sF σ 9 8) k = 0 := fun k k0 k1 => ty_mk_K (by omega) hz (by omega) (Or.inl rfl)
    rw [tg] at hc1
    refine ⟨fun n => if n = mi_sF σ 9 8 then .var (mi_sF σ 9 8).toNat else T' n, cp_step E H J h0 h1 hu X ty_mk_F (ty_mk_Z J3 (by omega) (by omega) (by omega) (by omega)) (fun n _ a => m6 n (by omega)) (by omega) (fun n _ a => if_neg (by omega)) ⟨⟨by omega, by omega⟩, m2, ⟨by omega, fun q => by omega⟩, fun k k0 k1 => Or.inl (mK k k0 k1), fun q => ⟨if_pos rfl, mK⟩, fun q => absurd m1 q, fun k k0 k1 => by rw [mK k k0 k1, m1]; exact ⟨fun _ => k0, fun _ => rfl⟩⟩ ?_ (fun _ _ => ⟨Int.le_refl _, m1⟩) (fun _ => by omega)⟩
    rw [if_pos rfl, (g5 (by omega)).1]
    show _ = cp_t stay σ2 _ _
    unfold cp_t
    have : (((mi_sA σ2 15 i).toNat : Nat) : Int) = mi_sA σ2 15 i := by omega
    rw [this, t2, if_pos ⟨hc1, hc2⟩]
    dsimp only
    rw [if_pos rfl]
  · -- a new node
    obtain ⟨X, m1, m2, m3, m4, m5, m6, m7, m8, m9⟩ := ty_mk_X (σ := σ) (g := mi_sA σ 10 (mi_sA σ2 15 i)) (a := tw_N σ (mi_sA σ2 15 i) 0) (b := tw_N σ (mi_sA σ2 15 i) 1) (c := tw_N σ (mi_sA σ2 15 i) 2) (by omega)
    have mK : ∀ k, 0 ≤ k → k < 3 → ty_K' (ty_mk σ (mi_sA σ 10 (mi_sA σ2 15 i)) (tw_N σ (mi_sA σ2 15 i) 0) (tw_N σ (mi_sA σ2 15 i) 1) (tw_N σ (mi_sA σ2 15 i) 2)) (mi_sF σ 9 8) k = tw_N σ (mi_sA σ2 15 i) k := fun k k0 k1 => by
      refine ty_mk_K (by omega) hz ?_ (kR k k0 k1)
      obtain rfl | rfl | rfl : k = 0 ∨ k = 1 ∨ k = 2 := by omega
      · exact Or.inl ⟨rfl, rfl⟩
      · exact Or.inr (Or.inl ⟨rfl, rfl⟩)
      · exact Or.inr (Or.inr ⟨rfl, rfl⟩)
    have rg : ∀ k, 0 ≤ k → k < 3 → 0 ≤ tw_N σ (mi_sA σ2 15 i) k ∧ tw_N σ (mi_sA σ2 15 i) k < mi_sF σ 9 8 := fun k k0 k1 => by
      rcases kR k k0 k1 with e | e
      · rw [e]; omega
      · omega
    have nu : ∀ k, 0 ≤ k → k < 3 → tw_N σ (mi_sA σ2 15 i) k ≠ mi_sF σ 9 8 := fun k k0 k1 => by have := rg k k0 k1; omega
    refine ⟨fun n => if n = mi_sF σ 9 8 then sb (cp_t stay σ2 (fun n => if n = mi_sA σ2 15 i then mi_sF σ 9 8 else mi_sA σ 14 n)) (T (mi_sA σ2 15 i)) else T' n, cp_step E H J h0 h1 hu X ty_mk_F (ty_mk_Z J3 (by omega) (rg 0 (by omega) (by omega)) (rg 1 (by omega) (by omega)) (rg 2 (by omega) (by omega))) (fun n _ a => m6 n (by omega)) (by omega) (fun n _ a => if_neg (by omega)) ⟨⟨by omega, by omega⟩, m2, ⟨by omega, fun q => by omega⟩, fun k k0 k1 => ?_, fun q => by omega, fun q1 q2 => ?_, fun k k0 k1 => ?_⟩ (if_pos rfl) (fun s4 q4 => by omega) (fun _ => by omega)⟩
    · rw [mK k k0 k1]
      rcases kN k k0 k1 with ⟨w, -⟩ | ⟨-, w, -⟩
      · exact Or.inl w
      · exact Or.inr w
    · rw [mK 0 (by omega) (by omega), mK 1 (by omega) (by omega), mK 2 (by omega) (by omega)]
      rw [if_pos rfl, if_neg (nu 0 (by omega) (by omega)), if_neg (nu 1 (by omega) (by omega)), if_neg (nu 2 (by omega) (by omega)), kT 0 (by omega) (by omega), kT 1 (by omega) (by omega), kT 2 (by omega) (by omega), m1, tg, g6 (by omega) (by omega), sb_tn]
    · rw [mK k k0 k1, m1, tg, ← g7 k k0 k1]
      rcases kN k k0 k1 with ⟨w1, w2, -⟩ | ⟨w1, w2, -⟩
      · rw [w1, w2]
      · have := (J6.2 _ w2).1
        exact ⟨fun q => absurd q (by omega), fun q => absurd q w1⟩
theorem ty_twinOf {X : mi_X} {σ : mi_Sg} {d : Nat} {nd stay N0 N1 N2 : Int} (h0 : 0 < nd) (h1 : nd < mi_sF σ 9 8) (hroot : mi_sA σ 12 nd = nd) (hu5 : mi_sF σ 9 8 < 512) (hst : stay = 0 ∨ stay = 1) (ht : 1 ≤ mi_sA σ 10 nd ∧ mi_sA σ 10 nd ≤ 100) (hk : ∀ k, 0 ≤ k → k < 3 → 0 ≤ ty_k σ nd k ∧ ty_k σ nd k < mi_sF σ 9 8) (hf : 0 ≤ mi_sF σ 9 9 ∧ mi_sF σ 9 9 ≤ 512) (e0 : (if ty_K' σ nd 0 = 0 then 0 else mi_sA σ 14 (ty_K' σ nd 0)) = N0) (r0 : 0 ≤ N0 ∧ N0 < 512) (e1 : (if ty_K' σ nd 1 = 0 then 0 else mi_sA σ 14 (ty_K' σ nd 1)) = N1) (r1 : 0 ≤ N1 ∧ N1 < 512) (e2 : (if ty_K' σ nd 2 = 0 then 0 else mi_sA σ 14 (ty_K' σ nd 2)) = N2) (r2 : 0 ≤ N2 ∧ N2 < 512) : ty_Ci X (d + 2) mi_M147 [(0, .ref 9), (1, .int (Int32.ofInt nd)), (2, .int (Int32.ofInt stay))] σ (fun x σ' => tw_P stay nd N0 N1 N2 σ x σ') := by
  intro h S
  have fr := mi_Fm_rf h
  have hu := ty_H_u S
  have z0 : 0 ≤ ty_K' σ nd 0 ∧ ty_K' σ nd 0 < mi_sF σ 9 8 := ⟨(ty_H_z S (hk 0 (by omega) (by omega)).1 (hk 0 (by omega) (by omega)).2).1, (ty_H_z S (hk 0 (by omega) (by omega)).1 (hk 0 (by omega) (by omega)).2).2.1⟩
  have z1 : 0 ≤ ty_K' σ nd 1 ∧ ty_K' σ nd 1 < mi_sF σ 9 8 := ⟨(ty_H_z S (hk 1 (by omega) (by omega)).1 (hk 1 (by omega) (by omega)).2).1, (ty_H_z S (hk 1 (by omega) (by omega)).1 (hk 1 (by omega) (by omega)).2).2.1⟩
  have z2 : 0 ≤ ty_K' σ nd 2 ∧ ty_K' σ nd 2 < mi_sF σ 9 8 := ⟨(ty_H_z S (hk 2 (by omega) (by omega)).1 (hk 2 (by omega) (by omega)).2).1, (ty_H_z S (hk 2 (by omega) (by omega)).1 (hk 2 (by omega) (by omega)).2).2.1⟩
  refine mi_wp_p (pc' := 1) (st' := [.ref 9]) rfl rfl rfl ?_
  refine ty_s_gr S rfl rfl rfl (List.mem_of_getElem? (i := 16) rfl) ?_
  refine mi_wp_p (pc' := 5) (st' := [.int (Int32.ofInt nd), .ref 10]) rfl rfl rfl ?_
  refine ty_s_ald (x := mi_sA σ 10 nd) S rfl rfl (List.mem_of_getElem? (i := 4) rfl) (by decide) (by omega) (by omega) rfl ?_
  refine mi_wp_p (pc' := 7) (l' := [(3, .int (Int32.ofInt (mi_sA σ 10 nd))), (0, .ref 9), (1, .int (Int32.ofInt nd)), (2, .int (Int32.ofInt stay))]) (st' := []) rfl rfl rfl ?_
  refine mi_wp_p (pc' := 8) (st' := [.int (Int32.ofInt (mi_sA σ 10 nd))]) rfl rfl rfl ?_
  refine mi_wp_p (pc' := 9) (st' := [.int (Int32.ofInt 1), .int (Int32.ofInt (mi_sA σ 10 nd))]) rfl rfl rfl ?_
  refine mi_s_if2 (t := 31) rfl rfl rfl (by unfold mi_R; omega) (by unfold mi_R; omega) ?_ ?_
  · intro (c1 : (mi_sA σ 10 nd) = 1)
    refine mi_wp_p (pc' := 32) (st' := [.int (Int32.ofInt nd)]) rfl rfl rfl ?_
    exact ty_s_ret S fr rfl rfl rfl (mi_ret_i rfl) ⟨_, rfl, Or.inl ⟨rfl, rfl, by omega⟩⟩
  · intro (c1 : ¬ ((mi_sA σ 10 nd) = 1))
    refine mi_wp_p (pc' := 13) (st' := [.int (Int32.ofInt (mi_sA σ 10 nd))]) rfl rfl rfl ?_
    refine mi_wp_p (pc' := 14) (st' := [.int (Int32.ofInt 2), .int (Int32.ofInt (mi_sA σ 10 nd))]) rfl rfl rfl ?_
    refine mi_s_if2 (t := 31) rfl rfl rfl (by unfold mi_R; omega) (by unfold mi_R; omega) ?_ ?_
    · intro (c2 : (mi_sA σ 10 nd) = 2)
      refine mi_wp_p (pc' := 32) (st' := [.int (Int32.ofInt nd)]) rfl rfl rfl ?_
      exact ty_s_ret S fr rfl rfl rfl (mi_ret_i rfl) ⟨_, rfl, Or.inl ⟨rfl, rfl, by omega⟩⟩
    · intro (c2 : ¬ ((mi_sA σ 10 nd) = 2))
      refine mi_wp_p (pc' := 18) (st' := [.int (Int32.ofInt (mi_sA σ 10 nd))]) rfl rfl rfl ?_
      refine mi_wp_p (pc' := 19) (st' := [.int (Int32.ofInt 3), .int (Int32.ofInt (mi_sA σ 10 nd))]) rfl rfl rfl ?_
      refine mi_s_if2 (t := 31) rfl rfl rfl (by unfold mi_R; omega) (by unfold mi_R; omega) ?_ ?_
      · intro (c3 : (mi_sA σ 10 nd) = 3)
        refine mi_wp_p (pc' := 32) (st' := [.int (Int32.ofInt nd)]) rfl rfl rfl ?_
        exact ty_s_ret S fr rfl rfl rfl (mi_ret_i rfl) ⟨_, rfl, Or.inl ⟨rfl, rfl, by omega⟩⟩
      · intro (c3 : ¬ ((mi_sA σ 10 nd) = 3))
        refine mi_wp_p (pc' := 23) (st' := [.int (Int32.ofInt (mi_sA σ 10 nd))]) rfl rfl rfl ?_
        refine mi_wp_p (pc' := 24) (st' := [.int (Int32.ofInt 4), .int (Int32.ofInt (mi_sA σ 10 nd))]) rfl rfl rfl ?_
        refine mi_s_if2 (t := 33) rfl rfl rfl (by unfold mi_R; omega) (by unfold mi_R; omega) ?_ ?_
        · intro (c4 : (mi_sA σ 10 nd) ≠ 4)
          refine mi_wp_p (pc' := 34) (st' := [.int (Int32.ofInt (mi_sA σ 10 nd))]) rfl rfl rfl ?_
          refine mi_wp_p (pc' := 35) (st' := [.int (Int32.ofInt 4), .int (Int32.ofInt (mi_sA σ 10 nd))]) rfl rfl rfl ?_
          refine mi_s_if2 (t := 47) rfl rfl rfl (by unfold mi_R; omega) (by unfold mi_R; omega) ?_ ?_
          · intro (c5 : (mi_sA σ 10 nd) ≠ 4)
            refine mi_wp_p (pc' := 48) (st' := [.ref 9]) rfl rfl rfl ?_
            refine mi_wp_p (pc' := 49) (st' := [.int (Int32.ofInt nd), .ref 9]) rfl rfl rfl ?_
            refine mi_wp_p (pc' := 50) (st' := [.int (Int32.ofInt 0), .int (Int32.ofInt nd), .ref 9]) rfl rfl rfl ?_
            refine ty_s_ci rfl rfl rfl rfl rfl rfl (mi_cal_v2 (np := 2) (args := [.ref 9, .int (Int32.ofInt nd), .int (Int32.ofInt 0)]) (rest := []) rfl rfl rfl rfl rfl (Nat.le_of_ble_eq_true rfl) rfl rfl (Nat.le_of_ble_eq_true rfl) (ty_rcS S (List.mem_of_getElem? (i := 5) rfl))) (Nat.le_of_ble_eq_true rfl) S (ty_noteOfKid h0 h1 (by omega) (by omega) (hk 0 (by omega) (by omega))) ?_
            intro x hh σ1 S f P
            obtain ⟨q1, q2⟩ := P
            rw [e0] at q1
            rw [q2] at S
            rw [q1]
            clear q1 q2
            replace fr := mi_Fm_tr fr f
            refine mi_wp_p (pc' := 55) (l' := [(4, .int (Int32.ofInt N0)), (3, .int (Int32.ofInt (mi_sA σ 10 nd))), (0, .ref 9), (1, .int (Int32.ofInt nd)), (2, .int (Int32.ofInt stay))]) (st' := []) rfl rfl rfl ?_
            refine mi_wp_p (pc' := 56) (st' := [.ref 9]) rfl rfl rfl ?_
            refine mi_wp_p (pc' := 57) (st' := [.int (Int32.ofInt nd), .ref 9]) rfl rfl rfl ?_
            refine mi_wp_p (pc' := 58) (st' := [.int (Int32.ofInt 1), .int (Int32.ofInt nd), .ref 9]) rfl rfl rfl ?_
            refine ty_s_ci rfl rfl rfl rfl rfl rfl (mi_cal_v2 (np := 2) (args := [.ref 9, .int (Int32.ofInt nd), .int (Int32.ofInt 1)]) (rest := []) rfl rfl rfl rfl rfl (Nat.le_of_ble_eq_true rfl) rfl rfl (Nat.le_of_ble_eq_true rfl) (ty_rcS S (List.mem_of_getElem? (i := 5) rfl))) (Nat.le_of_ble_eq_true rfl) S (ty_noteOfKid h0 h1 (by omega) (by omega) (hk 1 (by omega) (by omega))) ?_
            intro x hh σ1 S f P
            obtain ⟨q1, q2⟩ := P
            rw [e1] at q1
            rw [q2] at S
            rw [q1]
            clear q1 q2
            replace fr := mi_Fm_tr fr f
            refine mi_wp_p (pc' := 63) (l' := [(5, .int (Int32.ofInt N1)), (4, .int (Int32.ofInt N0)), (3, .int (Int32.ofInt (mi_sA σ 10 nd))), (0, .ref 9), (1, .int (Int32.ofInt nd)), (2, .int (Int32.ofInt stay))]) (st' := []) rfl rfl rfl ?_
            refine mi_wp_p (pc' := 64) (st' := [.ref 9]) rfl rfl rfl ?_
            refine mi_wp_p (pc' := 65) (st' := [.int (Int32.ofInt nd), .ref 9]) rfl rfl rfl ?_
            refine mi_wp_p (pc' := 66) (st' := [.int (Int32.ofInt 2), .int (Int32.ofInt nd), .ref 9]) rfl rfl rfl ?_
            refine ty_s_ci rfl rfl rfl rfl rfl rfl (mi_cal_v2 (np := 2) (args := [.ref 9, .int (Int32.ofInt nd), .int (Int32.ofInt 2)]) (rest := []) rfl rfl rfl rfl rfl (Nat.le_of_ble_eq_true rfl) rfl rfl (Nat.le_of_ble_eq_true rfl) (ty_rcS S (List.mem_of_getElem? (i := 5) rfl))) (Nat.le_of_ble_eq_true rfl) S (ty_noteOfKid h0 h1 (by omega) (by omega) (hk 2 (by omega) (by omega))) ?_
            intro x hh σ1 S f P
            obtain ⟨q1, q2⟩ := P
            rw [e2] at q1
            rw [q2] at S
            rw [q1]
            clear q1 q2
            replace fr := mi_Fm_tr fr f
            refine mi_wp_p (pc' := 71) (l' := [(6, .int (Int32.ofInt N2)), (5, .int (Int32.ofInt N1)), (4, .int (Int32.ofInt N0)), (3, .int (Int32.ofInt (mi_sA σ 10 nd))), (0, .ref 9), (1, .int (Int32.ofInt nd)), (2, .int (Int32.ofInt stay))]) (st' := []) rfl rfl rfl ?_
            refine mi_wp_p (pc' := 73) (st' := [.int (Int32.ofInt N0)]) rfl rfl rfl ?_
            refine mi_wp_p (pc' := 74) (st' := [.ref 9, .int (Int32.ofInt N0)]) rfl rfl rfl ?_
            refine mi_wp_p (pc' := 75) (st' := [.int (Int32.ofInt nd), .ref 9, .int (Int32.ofInt N0)]) rfl rfl rfl ?_
            refine mi_wp_p (pc' := 76) (st' := [.int (Int32.ofInt 0), .int (Int32.ofInt nd), .ref 9, .int (Int32.ofInt N0)]) rfl rfl rfl ?_
            refine ty_s_ci rfl rfl rfl rfl rfl rfl (mi_cal_v2 (np := 2) (args := [.ref 9, .int (Int32.ofInt nd), .int (Int32.ofInt 0)]) (rest := [.int (Int32.ofInt N0)]) rfl rfl rfl rfl rfl (Nat.le_of_ble_eq_true rfl) rfl rfl (Nat.le_of_ble_eq_true rfl) (ty_rcS S (List.mem_of_getElem? (i := 5) rfl))) (Nat.le_of_ble_eq_true rfl) S (ty_kidOf (d := d) (σ := σ) (nd := nd) (w := 0) h0 h1 (by omega) (by rw [hroot]; exact hk 0 (by omega) (by omega))) ?_
            intro x hh σ1 S f P
            obtain ⟨q1, q2⟩ := P
            rw [hroot] at q1
            change x = ty_K' σ nd 0 at q1
            rw [q2] at S
            rw [q1]
            clear q1 q2
            replace fr := mi_Fm_tr fr f
            refine mi_s_if2 (t := 108) rfl rfl rfl (by unfold mi_R; omega) (by unfold mi_R; omega) ?_ ?_
            · intro (c6 : N0 ≠ (ty_K' σ nd 0))
              refine mi_wp_p (pc' := 109) (st' := [.int (Int32.ofInt 0)]) rfl rfl rfl ?_
              refine mi_wp_p (pc' := 111) (l' := [(7, .int (Int32.ofInt 0)), (6, .int (Int32.ofInt N2)), (5, .int (Int32.ofInt N1)), (4, .int (Int32.ofInt N0)), (3, .int (Int32.ofInt (mi_sA σ 10 nd))), (0, .ref 9), (1, .int (Int32.ofInt nd)), (2, .int (Int32.ofInt stay))]) (st' := []) rfl rfl rfl ?_
              refine mi_wp_p (pc' := 113) (st' := [.int (Int32.ofInt 0)]) rfl rfl rfl ?_
              refine mi_s_if1 (t := 128) rfl rfl rfl (by unfold mi_R; omega) (fun _ => ?_) (fun hc_ => absurd (show (0 : Int) = 0 by omega) hc_)
              refine mi_wp_p (pc' := 129) (st' := [.ref 9]) rfl rfl rfl ?_
              refine mi_wp_p (pc' := 130) (st' := [.int (Int32.ofInt (mi_sA σ 10 nd)), .ref 9]) rfl rfl rfl ?_
              refine mi_wp_p (pc' := 132) (st' := [.int (Int32.ofInt N0), .int (Int32.ofInt (mi_sA σ 10 nd)), .ref 9]) rfl rfl rfl ?_
              refine mi_wp_p (pc' := 134) (st' := [.int (Int32.ofInt N1), .int (Int32.ofInt N0), .int (Int32.ofInt (mi_sA σ 10 nd)), .ref 9]) rfl rfl rfl ?_
              refine mi_wp_p (pc' := 136) (st' := [.int (Int32.ofInt N2), .int (Int32.ofInt N1), .int (Int32.ofInt N0), .int (Int32.ofInt (mi_sA σ 10 nd)), .ref 9]) rfl rfl rfl ?_
              refine ty_s_ci rfl rfl rfl rfl rfl rfl (mi_cal_v2 (np := 4) (args := [.ref 9, .int (Int32.ofInt (mi_sA σ 10 nd)), .int (Int32.ofInt N0), .int (Int32.ofInt N1), .int (Int32.ofInt N2)]) (rest := []) rfl rfl rfl rfl rfl (Nat.le_of_ble_eq_true rfl) rfl rfl (Nat.le_of_ble_eq_true rfl) (ty_rcS S (List.mem_of_getElem? (i := 5) rfl))) (Nat.le_of_ble_eq_true rfl) S (ty_make hu5) ?_
              intro x hh σ1 S f P
              obtain ⟨q1, q2⟩ := P
              rw [q2] at S
              rw [q1]
              clear q1 q2
              replace fr := mi_Fm_tr fr f
              exact ty_s_ret S fr rfl rfl rfl (mi_ret_i rfl) ⟨_, rfl, Or.inr ⟨rfl, Or.inr ⟨by omega, rfl⟩⟩⟩
            · intro (c6 : ¬ (N0 ≠ (ty_K' σ nd 0)))
              refine mi_wp_p (pc' := 84) (st' := [.int (Int32.ofInt N1)]) rfl rfl rfl ?_
              refine mi_wp_p (pc' := 85) (st' := [.ref 9, .int (Int32.ofInt N1)]) rfl rfl rfl ?_
              refine mi_wp_p (pc' := 86) (st' := [.int (Int32.ofInt nd), .ref 9, .int (Int32.ofInt N1)]) rfl rfl rfl ?_
              refine mi_wp_p (pc' := 87) (st' := [.int (Int32.ofInt 1), .int (Int32.ofInt nd), .ref 9, .int (Int32.ofInt N1)]) rfl rfl rfl ?_
              refine ty_s_ci rfl rfl rfl rfl rfl rfl (mi_cal_v2 (np := 2) (args := [.ref 9, .int (Int32.ofInt nd), .int (Int32.ofInt 1)]) (rest := [.int (Int32.ofInt N1)]) rfl rfl rfl rfl rfl (Nat.le_of_ble_eq_true rfl) rfl rfl (Nat.le_of_ble_eq_true rfl) (ty_rcS S (List.mem_of_getElem? (i := 5) rfl))) (Nat.le_of_ble_eq_true rfl) S (ty_kidOf (d := d) (σ := σ) (nd := nd) (w := 1) h0 h1 (by omega) (by rw [hroot]; exact hk 1 (by omega) (by omega))) ?_
              intro x hh σ1 S f P
              obtain ⟨q1, q2⟩ := P
              rw [hroot] at q1
              change x = ty_K' σ nd 1 at q1
              rw [q2] at S
              rw [q1]
              clear q1 q2
              replace fr := mi_Fm_tr fr f
              refine mi_s_if2 (t := 108) rfl rfl rfl (by unfold mi_R; omega) (by unfold mi_R; omega) ?_ ?_
              · intro (c7 : N1 ≠ (ty_K' σ nd 1))
                refine mi_wp_p (pc' := 109) (st' := [.int (Int32.ofInt 0)]) rfl rfl rfl ?_
                refine mi_wp_p (pc' := 111) (l' := [(7, .int (Int32.ofInt 0)), (6, .int (Int32.ofInt N2)), (5, .int (Int32.ofInt N1)), (4, .int (Int32.ofInt N0)), (3, .int (Int32.ofInt (mi_sA σ 10 nd))), (0, .ref 9), (1, .int (Int32.ofInt nd)), (2, .int (Int32.ofInt stay))]) (st' := []) rfl rfl rfl ?_
                refine mi_wp_p (pc' := 113) (st' := [.int (Int32.ofInt 0)]) rfl rfl rfl ?_
                refine mi_s_if1 (t := 128) rfl rfl rfl (by unfold mi_R; omega) (fun _ => ?_) (fun hc_ => absurd (show (0 : Int) = 0 by omega) hc_)
                refine mi_wp_p (pc' := 129) (st' := [.ref 9]) rfl rfl rfl ?_
                refine mi_wp_p (pc' := 130) (st' := [.int (Int32.ofInt (mi_sA σ 10 nd)), .ref 9]) rfl rfl rfl ?_
                refine mi_wp_p (pc' := 132) (st' := [.int (Int32.ofInt N0), .int (Int32.ofInt (mi_sA σ 10 nd)), .ref 9]) rfl rfl rfl ?_
                refine mi_wp_p (pc' := 134) (st' := [.int (Int32.ofInt N1), .int (Int32.ofInt N0), .int (Int32.ofInt (mi_sA σ 10 nd)), .ref 9]) rfl rfl rfl ?_
                refine mi_wp_p (pc' := 136) (st' := [.int (Int32.ofInt N2), .int (Int32.ofInt N1), .int (Int32.ofInt N0), .int (Int32.ofInt (mi_sA σ 10 nd)), .ref 9]) rfl rfl rfl ?_
                refine ty_s_ci rfl rfl rfl rfl rfl rfl (mi_cal_v2 (np := 4) (args := [.ref 9, .int (Int32.ofInt (mi_sA σ 10 nd)), .int (Int32.ofInt N0), .int (Int32.ofInt N1), .int (Int32.ofInt N2)]) (rest := []) rfl rfl rfl rfl rfl (Nat.le_of_ble_eq_true rfl) rfl rfl (Nat.le_of_ble_eq_true rfl) (ty_rcS S (List.mem_of_getElem? (i := 5) rfl))) (Nat.le_of_ble_eq_true rfl) S (ty_make hu5) ?_
                intro x hh σ1 S f P
                obtain ⟨q1, q2⟩ := P
                rw [q2] at S
                rw [q1]
                clear q1 q2
                replace fr := mi_Fm_tr fr f
                exact ty_s_ret S fr rfl rfl rfl (mi_ret_i rfl) ⟨_, rfl, Or.inr ⟨rfl, Or.inr ⟨by omega, rfl⟩⟩⟩
              · intro (c7 : ¬ (N1 ≠ (ty_K' σ nd 1)))
                refine mi_wp_p (pc' := 95) (st' := [.int (Int32.ofInt N2)]) rfl rfl rfl ?_
                refine mi_wp_p (pc' := 96) (st' := [.ref 9, .int (Int32.ofInt N2)]) rfl rfl rfl ?_
                refine mi_wp_p (pc' := 97) (st' := [.int (Int32.ofInt nd), .ref 9, .int (Int32.ofInt N2)]) rfl rfl rfl ?_
                refine mi_wp_p (pc' := 98) (st' := [.int (Int32.ofInt 2), .int (Int32.ofInt nd), .ref 9, .int (Int32.ofInt N2)]) rfl rfl rfl ?_
                refine ty_s_ci rfl rfl rfl rfl rfl rfl (mi_cal_v2 (np := 2) (args := [.ref 9, .int (Int32.ofInt nd), .int (Int32.ofInt 2)]) (rest := [.int (Int32.ofInt N2)]) rfl rfl rfl rfl rfl (Nat.le_of_ble_eq_true rfl) rfl rfl (Nat.le_of_ble_eq_true rfl) (ty_rcS S (List.mem_of_getElem? (i := 5) rfl))) (Nat.le_of_ble_eq_true rfl) S (ty_kidOf (d := d) (σ := σ) (nd := nd) (w := 2) h0 h1 (by omega) (by rw [hroot]; exact hk 2 (by omega) (by omega))) ?_
                intro x hh σ1 S f P
                obtain ⟨q1, q2⟩ := P
                rw [hroot] at q1
                change x = ty_K' σ nd 2 at q1
                rw [q2] at S
                rw [q1]
                clear q1 q2
                replace fr := mi_Fm_tr fr f
                refine mi_s_if2 (t := 108) rfl rfl rfl (by unfold mi_R; omega) (by unfold mi_R; omega) ?_ ?_
                · intro (c8 : N2 ≠ (ty_K' σ nd 2))
                  refine mi_wp_p (pc' := 109) (st' := [.int (Int32.ofInt 0)]) rfl rfl rfl ?_
                  refine mi_wp_p (pc' := 111) (l' := [(7, .int (Int32.ofInt 0)), (6, .int (Int32.ofInt N2)), (5, .int (Int32.ofInt N1)), (4, .int (Int32.ofInt N0)), (3, .int (Int32.ofInt (mi_sA σ 10 nd))), (0, .ref 9), (1, .int (Int32.ofInt nd)), (2, .int (Int32.ofInt stay))]) (st' := []) rfl rfl rfl ?_
                  refine mi_wp_p (pc' := 113) (st' := [.int (Int32.ofInt 0)]) rfl rfl rfl ?_
                  refine mi_s_if1 (t := 128) rfl rfl rfl (by unfold mi_R; omega) (fun _ => ?_) (fun hc_ => absurd (show (0 : Int) = 0 by omega) hc_)
                  refine mi_wp_p (pc' := 129) (st' := [.ref 9]) rfl rfl rfl ?_
                  refine mi_wp_p (pc' := 130) (st' := [.int (Int32.ofInt (mi_sA σ 10 nd)), .ref 9]) rfl rfl rfl ?_
                  refine mi_wp_p (pc' := 132) (st' := [.int (Int32.ofInt N0), .int (Int32.ofInt (mi_sA σ 10 nd)), .ref 9]) rfl rfl rfl ?_
                  refine mi_wp_p (pc' := 134) (st' := [.int (Int32.ofInt N1), .int (Int32.ofInt N0), .int (Int32.ofInt (mi_sA σ 10 nd)), .ref 9]) rfl rfl rfl ?_
                  refine mi_wp_p (pc' := 136) (st' := [.int (Int32.ofInt N2), .int (Int32.ofInt N1), .int (Int32.ofInt N0), .int (Int32.ofInt (mi_sA σ 10 nd)), .ref 9]) rfl rfl rfl ?_
                  refine ty_s_ci rfl rfl rfl rfl rfl rfl (mi_cal_v2 (np := 4) (args := [.ref 9, .int (Int32.ofInt (mi_sA σ 10 nd)), .int (Int32.ofInt N0), .int (Int32.ofInt N1), .int (Int32.ofInt N2)]) (rest := []) rfl rfl rfl rfl rfl (Nat.le_of_ble_eq_true rfl) rfl rfl (Nat.le_of_ble_eq_true rfl) (ty_rcS S (List.mem_of_getElem? (i := 5) rfl))) (Nat.le_of_ble_eq_true rfl) S (ty_make hu5) ?_
                  intro x hh σ1 S f P
                  obtain ⟨q1, q2⟩ := P
                  rw [q2] at S
                  rw [q1]
                  clear q1 q2
                  replace fr := mi_Fm_tr fr f
                  exact ty_s_ret S fr rfl rfl rfl (mi_ret_i rfl) ⟨_, rfl, Or.inr ⟨rfl, Or.inr ⟨by omega, rfl⟩⟩⟩
                · intro (c8 : ¬ (N2 ≠ (ty_K' σ nd 2)))
                  refine mi_wp_p (pc' := 105) (st' := [.int (Int32.ofInt 1)]) rfl rfl rfl ?_
                  refine mi_wp_p (pc' := 109) rfl rfl rfl ?_
                  refine mi_wp_p (pc' := 111) (l' := [(7, .int (Int32.ofInt 1)), (6, .int (Int32.ofInt N2)), (5, .int (Int32.ofInt N1)), (4, .int (Int32.ofInt N0)), (3, .int (Int32.ofInt (mi_sA σ 10 nd))), (0, .ref 9), (1, .int (Int32.ofInt nd)), (2, .int (Int32.ofInt stay))]) (st' := []) rfl rfl rfl ?_
                  refine mi_wp_p (pc' := 113) (st' := [.int (Int32.ofInt 1)]) rfl rfl rfl ?_
                  refine mi_s_if1 (t := 128) rfl rfl rfl (by unfold mi_R; omega) (fun hc_ => absurd (show (1 : Int) = 0 from hc_) (by omega)) (fun _ => ?_)
                  refine mi_wp_p (pc' := 117) (st' := [.int (Int32.ofInt nd)]) rfl rfl rfl ?_
                  refine mi_wp_p (pc' := 118) (st' := [.ref 9, .int (Int32.ofInt nd)]) rfl rfl rfl ?_
                  refine ty_s_gf (x := mi_sF σ 9 9) S rfl rfl rfl (List.mem_of_getElem? (i := 7) rfl) rfl ?_
                  refine mi_s_if2 (t := 128) rfl rfl rfl (by unfold mi_R; omega) (by unfold mi_R; omega) ?_ ?_
                  · intro (c9 : nd < (mi_sF σ 9 9))
                    refine mi_wp_p (pc' := 129) (st' := [.ref 9]) rfl rfl rfl ?_
                    refine mi_wp_p (pc' := 130) (st' := [.int (Int32.ofInt (mi_sA σ 10 nd)), .ref 9]) rfl rfl rfl ?_
                    refine mi_wp_p (pc' := 132) (st' := [.int (Int32.ofInt N0), .int (Int32.ofInt (mi_sA σ 10 nd)), .ref 9]) rfl rfl rfl ?_
                    refine mi_wp_p (pc' := 134) (st' := [.int (Int32.ofInt N1), .int (Int32.ofInt N0), .int (Int32.ofInt (mi_sA σ 10 nd)), .ref 9]) rfl rfl rfl ?_
                    refine mi_wp_p (pc' := 136) (st' := [.int (Int32.ofInt N2), .int (Int32.ofInt N1), .int (Int32.ofInt N0), .int (Int32.ofInt (mi_sA σ 10 nd)), .ref 9]) rfl rfl rfl ?_
                    refine ty_s_ci rfl rfl rfl rfl rfl rfl (mi_cal_v2 (np := 4) (args := [.ref 9, .int (Int32.ofInt (mi_sA σ 10 nd)), .int (Int32.ofInt N0), .int (Int32.ofInt N1), .int (Int32.ofInt N2)]) (rest := []) rfl rfl rfl rfl rfl (Nat.le_of_ble_eq_true rfl) rfl rfl (Nat.le_of_ble_eq_true rfl) (ty_rcS S (List.mem_of_getElem? (i := 5) rfl))) (Nat.le_of_ble_eq_true rfl) S (ty_make hu5) ?_
                    intro x hh σ1 S f P
                    obtain ⟨q1, q2⟩ := P
                    rw [q2] at S
                    rw [q1]
                    clear q1 q2
                    replace fr := mi_Fm_tr fr f
                    exact ty_s_ret S fr rfl rfl rfl (mi_ret_i rfl) ⟨_, rfl, Or.inr ⟨rfl, Or.inr ⟨by omega, rfl⟩⟩⟩
                  · intro (c9 : ¬ (nd < (mi_sF σ 9 9)))
                    refine mi_wp_p (pc' := 125) (st' := [.int (Int32.ofInt nd)]) rfl rfl rfl ?_
                    refine mi_wp_p (pc' := 139) rfl rfl rfl ?_
                    exact ty_s_ret S fr rfl rfl rfl (mi_ret_i rfl) ⟨_, rfl, Or.inl ⟨rfl, rfl, by omega⟩⟩
          · intro (c5 : ¬ ((mi_sA σ 10 nd) ≠ 4))
            refine mi_wp_p (pc' := 39) (st' := [.ref 9]) rfl rfl rfl ?_
            refine mi_wp_p (pc' := 40) (st' := [.int (Int32.ofInt 3), .ref 9]) rfl rfl rfl ?_
            refine mi_wp_p (pc' := 41) (st' := [.int (Int32.ofInt 0), .int (Int32.ofInt 3), .ref 9]) rfl rfl rfl ?_
            refine mi_wp_p (pc' := 42) (st' := [.int (Int32.ofInt 0), .int (Int32.ofInt 0), .int (Int32.ofInt 3), .ref 9]) rfl rfl rfl ?_
            refine mi_wp_p (pc' := 43) (st' := [.int (Int32.ofInt 0), .int (Int32.ofInt 0), .int (Int32.ofInt 0), .int (Int32.ofInt 3), .ref 9]) rfl rfl rfl ?_
            refine ty_s_ci rfl rfl rfl rfl rfl rfl (mi_cal_v2 (np := 4) (args := [.ref 9, .int (Int32.ofInt 3), .int (Int32.ofInt 0), .int (Int32.ofInt 0), .int (Int32.ofInt 0)]) (rest := []) rfl rfl rfl rfl rfl (Nat.le_of_ble_eq_true rfl) rfl rfl (Nat.le_of_ble_eq_true rfl) (ty_rcS S (List.mem_of_getElem? (i := 5) rfl))) (Nat.le_of_ble_eq_true rfl) S (ty_make hu5) ?_
            intro x hh σ1 S f P
            obtain ⟨q1, q2⟩ := P
            rw [q2] at S
            rw [q1]
            clear q1 q2
            replace fr := mi_Fm_tr fr f
            exact ty_s_ret S fr rfl rfl rfl (mi_ret_i rfl) ⟨_, rfl, Or.inr ⟨rfl, Or.inl ⟨by omega, by omega, rfl⟩⟩⟩
        · intro (c4 : ¬ ((mi_sA σ 10 nd) ≠ 4))
          refine mi_wp_p (pc' := 28) (st' := [.int (Int32.ofInt stay)]) rfl rfl rfl ?_
          refine mi_s_if1 (t := 33) rfl rfl rfl (by unfold mi_R; omega) ?_ ?_
          · intro (c10 : stay = 0)
            refine mi_wp_p (pc' := 34) (st' := [.int (Int32.ofInt (mi_sA σ 10 nd))]) rfl rfl rfl ?_
            refine mi_wp_p (pc' := 35) (st' := [.int (Int32.ofInt 4), .int (Int32.ofInt (mi_sA σ 10 nd))]) rfl rfl rfl ?_
            refine mi_s_if2 (t := 47) rfl rfl rfl (by unfold mi_R; omega) (by unfold mi_R; omega) ?_ ?_
            · intro (c11 : (mi_sA σ 10 nd) ≠ 4)
              refine mi_wp_p (pc' := 48) (st' := [.ref 9]) rfl rfl rfl ?_
              refine mi_wp_p (pc' := 49) (st' := [.int (Int32.ofInt nd), .ref 9]) rfl rfl rfl ?_
              refine mi_wp_p (pc' := 50) (st' := [.int (Int32.ofInt 0), .int (Int32.ofInt nd), .ref 9]) rfl rfl rfl ?_
              refine ty_s_ci rfl rfl rfl rfl rfl rfl (mi_cal_v2 (np := 2) (args := [.ref 9, .int (Int32.ofInt nd), .int (Int32.ofInt 0)]) (rest := []) rfl rfl rfl rfl rfl (Nat.le_of_ble_eq_true rfl) rfl rfl (Nat.le_of_ble_eq_true rfl) (ty_rcS S (List.mem_of_getElem? (i := 5) rfl))) (Nat.le_of_ble_eq_true rfl) S (ty_noteOfKid h0 h1 (by omega) (by omega) (hk 0 (by omega) (by omega))) ?_
              intro x hh σ1 S f P
              obtain ⟨q1, q2⟩ := P
              rw [e0] at q1
              rw [q2] at S
              rw [q1]
              clear q1 q2
              replace fr := mi_Fm_tr fr f
              refine mi_wp_p (pc' := 55) (l' := [(4, .int (Int32.ofInt N0)), (3, .int (Int32.ofInt (mi_sA σ 10 nd))), (0, .ref 9), (1, .int (Int32.ofInt nd)), (2, .int (Int32.ofInt stay))]) (st' := []) rfl rfl rfl ?_
              refine mi_wp_p (pc' := 56) (st' := [.ref 9]) rfl rfl rfl ?_
              refine mi_wp_p (pc' := 57) (st' := [.int (Int32.ofInt nd), .ref 9]) rfl rfl rfl ?_
              refine mi_wp_p (pc' := 58) (st' := [.int (Int32.ofInt 1), .int (Int32.ofInt nd), .ref 9]) rfl rfl rfl ?_
              refine ty_s_ci rfl rfl rfl rfl rfl rfl (mi_cal_v2 (np := 2) (args := [.ref 9, .int (Int32.ofInt nd), .int (Int32.ofInt 1)]) (rest := []) rfl rfl rfl rfl rfl (Nat.le_of_ble_eq_true rfl) rfl rfl (Nat.le_of_ble_eq_true rfl) (ty_rcS S (List.mem_of_getElem? (i := 5) rfl))) (Nat.le_of_ble_eq_true rfl) S (ty_noteOfKid h0 h1 (by omega) (by omega) (hk 1 (by omega) (by omega))) ?_
              intro x hh σ1 S f P
              obtain ⟨q1, q2⟩ := P
              rw [e1] at q1
              rw [q2] at S
              rw [q1]
              clear q1 q2
              replace fr := mi_Fm_tr fr f
              refine mi_wp_p (pc' := 63) (l' := [(5, .int (Int32.ofInt N1)), (4, .int (Int32.ofInt N0)), (3, .int (Int32.ofInt (mi_sA σ 10 nd))), (0, .ref 9), (1, .int (Int32.ofInt nd)), (2, .int (Int32.ofInt stay))]) (st' := []) rfl rfl rfl ?_
              refine mi_wp_p (pc' := 64) (st' := [.ref 9]) rfl rfl rfl ?_
              refine mi_wp_p (pc' := 65) (st' := [.int (Int32.ofInt nd), .ref 9]) rfl rfl rfl ?_
              refine mi_wp_p (pc' := 66) (st' := [.int (Int32.ofInt 2), .int (Int32.ofInt nd), .ref 9]) rfl rfl rfl ?_
              refine ty_s_ci rfl rfl rfl rfl rfl rfl (mi_cal_v2 (np := 2) (args := [.ref 9, .int (Int32.ofInt nd), .int (Int32.ofInt 2)]) (rest := []) rfl rfl rfl rfl rfl (Nat.le_of_ble_eq_true rfl) rfl rfl (Nat.le_of_ble_eq_true rfl) (ty_rcS S (List.mem_of_getElem? (i := 5) rfl))) (Nat.le_of_ble_eq_true rfl) S (ty_noteOfKid h0 h1 (by omega) (by omega) (hk 2 (by omega) (by omega))) ?_
              intro x hh σ1 S f P
              obtain ⟨q1, q2⟩ := P
              rw [e2] at q1
              rw [q2] at S
              rw [q1]
              clear q1 q2
              replace fr := mi_Fm_tr fr f
              refine mi_wp_p (pc' := 71) (l' := [(6, .int (Int32.ofInt N2)), (5, .int (Int32.ofInt N1)), (4, .int (Int32.ofInt N0)), (3, .int (Int32.ofInt (mi_sA σ 10 nd))), (0, .ref 9), (1, .int (Int32.ofInt nd)), (2, .int (Int32.ofInt stay))]) (st' := []) rfl rfl rfl ?_
              refine mi_wp_p (pc' := 73) (st' := [.int (Int32.ofInt N0)]) rfl rfl rfl ?_
              refine mi_wp_p (pc' := 74) (st' := [.ref 9, .int (Int32.ofInt N0)]) rfl rfl rfl ?_
              refine mi_wp_p (pc' := 75) (st' := [.int (Int32.ofInt nd), .ref 9, .int (Int32.ofInt N0)]) rfl rfl rfl ?_
              refine mi_wp_p (pc' := 76) (st' := [.int (Int32.ofInt 0), .int (Int32.ofInt nd), .ref 9, .int (Int32.ofInt N0)]) rfl rfl rfl ?_
              refine ty_s_ci rfl rfl rfl rfl rfl rfl (mi_cal_v2 (np := 2) (args := [.ref 9, .int (Int32.ofInt nd), .int (Int32.ofInt 0)]) (rest := [.int (Int32.ofInt N0)]) rfl rfl rfl rfl rfl (Nat.le_of_ble_eq_true rfl) rfl rfl (Nat.le_of_ble_eq_true rfl) (ty_rcS S (List.mem_of_getElem? (i := 5) rfl))) (Nat.le_of_ble_eq_true rfl) S (ty_kidOf (d := d) (σ := σ) (nd := nd) (w := 0) h0 h1 (by omega) (by rw [hroot]; exact hk 0 (by omega) (by omega))) ?_
              intro x hh σ1 S f P
              obtain ⟨q1, q2⟩ := P
              rw [hroot] at q1
              change x = ty_K' σ nd 0 at q1
              rw [q2] at S
              rw [q1]
              clear q1 q2
              replace fr := mi_Fm_tr fr f
              refine mi_s_if2 (t := 108) rfl rfl rfl (by unfold mi_R; omega) (by unfold mi_R; omega) ?_ ?_
              · intro (c12 : N0 ≠ (ty_K' σ nd 0))
                refine mi_wp_p (pc' := 109) (st' := [.int (Int32.ofInt 0)]) rfl rfl rfl ?_
                refine mi_wp_p (pc' := 111) (l' := [(7, .int (Int32.ofInt 0)), (6, .int (Int32.ofInt N2)), (5, .int (Int32.ofInt N1)), (4, .int (Int32.ofInt N0)), (3, .int (Int32.ofInt (mi_sA σ 10 nd))), (0, .ref 9), (1, .int (Int32.ofInt nd)), (2, .int (Int32.ofInt stay))]) (st' := []) rfl rfl rfl ?_
                refine mi_wp_p (pc' := 113) (st' := [.int (Int32.ofInt 0)]) rfl rfl rfl ?_
                refine mi_s_if1 (t := 128) rfl rfl rfl (by unfold mi_R; omega) (fun _ => ?_) (fun hc_ => absurd (show (0 : Int) = 0 by omega) hc_)
                refine mi_wp_p (pc' := 129) (st' := [.ref 9]) rfl rfl rfl ?_
                refine mi_wp_p (pc' := 130) (st' := [.int (Int32.ofInt (mi_sA σ 10 nd)), .ref 9]) rfl rfl rfl ?_
                refine mi_wp_p (pc' := 132) (st' := [.int (Int32.ofInt N0), .int (Int32.ofInt (mi_sA σ 10 nd)), .ref 9]) rfl rfl rfl ?_
                refine mi_wp_p (pc' := 134) (st' := [.int (Int32.ofInt N1), .int (Int32.ofInt N0), .int (Int32.ofInt (mi_sA σ 10 nd)), .ref 9]) rfl rfl rfl ?_
                refine mi_wp_p (pc' := 136) (st' := [.int (Int32.ofInt N2), .int (Int32.ofInt N1), .int (Int32.ofInt N0), .int (Int32.ofInt (mi_sA σ 10 nd)), .ref 9]) rfl rfl rfl ?_
                refine ty_s_ci rfl rfl rfl rfl rfl rfl (mi_cal_v2 (np := 4) (args := [.ref 9, .int (Int32.ofInt (mi_sA σ 10 nd)), .int (Int32.ofInt N0), .int (Int32.ofInt N1), .int (Int32.ofInt N2)]) (rest := []) rfl rfl rfl rfl rfl (Nat.le_of_ble_eq_true rfl) rfl rfl (Nat.le_of_ble_eq_true rfl) (ty_rcS S (List.mem_of_getElem? (i := 5) rfl))) (Nat.le_of_ble_eq_true rfl) S (ty_make hu5) ?_
                intro x hh σ1 S f P
                obtain ⟨q1, q2⟩ := P
                rw [q2] at S
                rw [q1]
                clear q1 q2
                replace fr := mi_Fm_tr fr f
                exact ty_s_ret S fr rfl rfl rfl (mi_ret_i rfl) ⟨_, rfl, Or.inr ⟨rfl, Or.inr ⟨by omega, rfl⟩⟩⟩
              · intro (c12 : ¬ (N0 ≠ (ty_K' σ nd 0)))
                refine mi_wp_p (pc' := 84) (st' := [.int (Int32.ofInt N1)]) rfl rfl rfl ?_
                refine mi_wp_p (pc' := 85) (st' := [.ref 9, .int (Int32.ofInt N1)]) rfl rfl rfl ?_
                refine mi_wp_p (pc' := 86) (st' := [.int (Int32.ofInt nd), .ref 9, .int (Int32.ofInt N1)]) rfl rfl rfl ?_
                refine mi_wp_p (pc' := 87) (st' := [.int (Int32.ofInt 1), .int (Int32.ofInt nd), .ref 9, .int (Int32.ofInt N1)]) rfl rfl rfl ?_
                refine ty_s_ci rfl rfl rfl rfl rfl rfl (mi_cal_v2 (np := 2) (args := [.ref 9, .int (Int32.ofInt nd), .int (Int32.ofInt 1)]) (rest := [.int (Int32.ofInt N1)]) rfl rfl rfl rfl rfl (Nat.le_of_ble_eq_true rfl) rfl rfl (Nat.le_of_ble_eq_true rfl) (ty_rcS S (List.mem_of_getElem? (i := 5) rfl))) (Nat.le_of_ble_eq_true rfl) S (ty_kidOf (d := d) (σ := σ) (nd := nd) (w := 1) h0 h1 (by omega) (by rw [hroot]; exact hk 1 (by omega) (by omega))) ?_
                intro x hh σ1 S f P
                obtain ⟨q1, q2⟩ := P
                rw [hroot] at q1
                change x = ty_K' σ nd 1 at q1
                rw [q2] at S
                rw [q1]
                clear q1 q2
                replace fr := mi_Fm_tr fr f
                refine mi_s_if2 (t := 108) rfl rfl rfl (by unfold mi_R; omega) (by unfold mi_R; omega) ?_ ?_
                · intro (c13 : N1 ≠ (ty_K' σ nd 1))
                  refine mi_wp_p (pc' := 109) (st' := [.int (Int32.ofInt 0)]) rfl rfl rfl ?_
                  refine mi_wp_p (pc' := 111) (l' := [(7, .int (Int32.ofInt 0)), (6, .int (Int32.ofInt N2)), (5, .int (Int32.ofInt N1)), (4, .int (Int32.ofInt N0)), (3, .int (Int32.ofInt (mi_sA σ 10 nd))), (0, .ref 9), (1, .int (Int32.ofInt nd)), (2, .int (Int32.ofInt stay))]) (st' := []) rfl rfl rfl ?_
                  refine mi_wp_p (pc' := 113) (st' := [.int (Int32.ofInt 0)]) rfl rfl rfl ?_
                  refine mi_s_if1 (t := 128) rfl rfl rfl (by unfold mi_R; omega) (fun _ => ?_) (fun hc_ => absurd (show (0 : Int) = 0 by omega) hc_)
                  refine mi_wp_p (pc' := 129) (st' := [.ref 9]) rfl rfl rfl ?_
                  refine mi_wp_p (pc' := 130) (st' := [.int (Int32.ofInt (mi_sA σ 10 nd)), .ref 9]) rfl rfl rfl ?_
                  refine mi_wp_p (pc' := 132) (st' := [.int (Int32.ofInt N0), .int (Int32.ofInt (mi_sA σ 10 nd)), .ref 9]) rfl rfl rfl ?_
                  refine mi_wp_p (pc' := 134) (st' := [.int (Int32.ofInt N1), .int (Int32.ofInt N0), .int (Int32.ofInt (mi_sA σ 10 nd)), .ref 9]) rfl rfl rfl ?_
                  refine mi_wp_p (pc' := 136) (st' := [.int (Int32.ofInt N2), .int (Int32.ofInt N1), .int (Int32.ofInt N0), .int (Int32.ofInt (mi_sA σ 10 nd)), .ref 9]) rfl rfl rfl ?_
                  refine ty_s_ci rfl rfl rfl rfl rfl rfl (mi_cal_v2 (np := 4) (args := [.ref 9, .int (Int32.ofInt (mi_sA σ 10 nd)), .int (Int32.ofInt N0), .int (Int32.ofInt N1), .int (Int32.ofInt N2)]) (rest := []) rfl rfl rfl rfl rfl (Nat.le_of_ble_eq_true rfl) rfl rfl (Nat.le_of_ble_eq_true rfl) (ty_rcS S (List.mem_of_getElem? (i := 5) rfl))) (Nat.le_of_ble_eq_true rfl) S (ty_make hu5) ?_
                  intro x hh σ1 S f P
                  obtain ⟨q1, q2⟩ := P
                  rw [q2] at S
                  rw [q1]
                  clear q1 q2
                  replace fr := mi_Fm_tr fr f
                  exact ty_s_ret S fr rfl rfl rfl (mi_ret_i rfl) ⟨_, rfl, Or.inr ⟨rfl, Or.inr ⟨by omega, rfl⟩⟩⟩
                · intro (c13 : ¬ (N1 ≠ (ty_K' σ nd 1)))
                  refine mi_wp_p (pc' := 95) (st' := [.int (Int32.ofInt N2)]) rfl rfl rfl ?_
                  refine mi_wp_p (pc' := 96) (st' := [.ref 9, .int (Int32.ofInt N2)]) rfl rfl rfl ?_
                  refine mi_wp_p (pc' := 97) (st' := [.int (Int32.ofInt nd), .ref 9, .int (Int32.ofInt N2)]) rfl rfl rfl ?_
                  refine mi_wp_p (pc' := 98) (st' := [.int (Int32.ofInt 2), .int (Int32.ofInt nd), .ref 9, .int (Int32.ofInt N2)]) rfl rfl rfl ?_
                  refine ty_s_ci rfl rfl rfl rfl rfl rfl (mi_cal_v2 (np := 2) (args := [.ref 9, .int (Int32.ofInt nd), .int (Int32.ofInt 2)]) (rest := [.int (Int32.ofInt N2)]) rfl rfl rfl rfl rfl (Nat.le_of_ble_eq_true rfl) rfl rfl (Nat.le_of_ble_eq_true rfl) (ty_rcS S (List.mem_of_getElem? (i := 5) rfl))) (Nat.le_of_ble_eq_true rfl) S (ty_kidOf (d := d) (σ := σ) (nd := nd) (w := 2) h0 h1 (by omega) (by rw [hroot]; exact hk 2 (by omega) (by omega))) ?_
                  intro x hh σ1 S f P
                  obtain ⟨q1, q2⟩ := P
                  rw [hroot] at q1
                  change x = ty_K' σ nd 2 at q1
                  rw [q2] at S
                  rw [q1]
                  clear q1 q2
                  replace fr := mi_Fm_tr fr f
                  refine mi_s_if2 (t := 108) rfl rfl rfl (by unfold mi_R; omega) (by unfold mi_R; omega) ?_ ?_
                  · intro (c14 : N2 ≠ (ty_K' σ nd 2))
                    refine mi_wp_p (pc' := 109) (st' := [.int (Int32.ofInt 0)]) rfl rfl rfl ?_
                    refine mi_wp_p (pc' := 111) (l' := [(7, .int (Int32.ofInt 0)), (6, .int (Int32.ofInt N2)), (5, .int (Int32.ofInt N1)), (4, .int (Int32.ofInt N0)), (3, .int (Int32.ofInt (mi_sA σ 10 nd))), (0, .ref 9), (1, .int (Int32.ofInt nd)), (2, .int (Int32.ofInt stay))]) (st' := []) rfl rfl rfl ?_
                    refine mi_wp_p (pc' := 113) (st' := [.int (Int32.ofInt 0)]) rfl rfl rfl ?_
                    refine mi_s_if1 (t := 128) rfl rfl rfl (by unfold mi_R; omega) (fun _ => ?_) (fun hc_ => absurd (show (0 : Int) = 0 by omega) hc_)
                    refine mi_wp_p (pc' := 129) (st' := [.ref 9]) rfl rfl rfl ?_
                    refine mi_wp_p (pc' := 130) (st' := [.int (Int32.ofInt (mi_sA σ 10 nd)), .ref 9]) rfl rfl rfl ?_
                    refine mi_wp_p (pc' := 132) (st' := [.int (Int32.ofInt N0), .int (Int32.ofInt (mi_sA σ 10 nd)), .ref 9]) rfl rfl rfl ?_
                    refine mi_wp_p (pc' := 134) (st' := [.int (Int32.ofInt N1), .int (Int32.ofInt N0), .int (Int32.ofInt (mi_sA σ 10 nd)), .ref 9]) rfl rfl rfl ?_
                    refine mi_wp_p (pc' := 136) (st' := [.int (Int32.ofInt N2), .int (Int32.ofInt N1), .int (Int32.ofInt N0), .int (Int32.ofInt (mi_sA σ 10 nd)), .ref 9]) rfl rfl rfl ?_
                    refine ty_s_ci rfl rfl rfl rfl rfl rfl (mi_cal_v2 (np := 4) (args := [.ref 9, .int (Int32.ofInt (mi_sA σ 10 nd)), .int (Int32.ofInt N0), .int (Int32.ofInt N1), .int (Int32.ofInt N2)]) (rest := []) rfl rfl rfl rfl rfl (Nat.le_of_ble_eq_true rfl) rfl rfl (Nat.le_of_ble_eq_true rfl) (ty_rcS S (List.mem_of_getElem? (i := 5) rfl))) (Nat.le_of_ble_eq_true rfl) S (ty_make hu5) ?_
                    intro x hh σ1 S f P
                    obtain ⟨q1, q2⟩ := P
                    rw [q2] at S
                    rw [q1]
                    clear q1 q2
                    replace fr := mi_Fm_tr fr f
                    exact ty_s_ret S fr rfl rfl rfl (mi_ret_i rfl) ⟨_, rfl, Or.inr ⟨rfl, Or.inr ⟨by omega, rfl⟩⟩⟩
                  · intro (c14 : ¬ (N2 ≠ (ty_K' σ nd 2)))
                    refine mi_wp_p (pc' := 105) (st' := [.int (Int32.ofInt 1)]) rfl rfl rfl ?_
                    refine mi_wp_p (pc' := 109) rfl rfl rfl ?_
                    refine mi_wp_p (pc' := 111) (l' := [(7, .int (Int32.ofInt 1)), (6, .int (Int32.ofInt N2)), (5, .int (Int32.ofInt N1)), (4, .int (Int32.ofInt N0)), (3, .int (Int32.ofInt (mi_sA σ 10 nd))), (0, .ref 9), (1, .int (Int32.ofInt nd)), (2, .int (Int32.ofInt stay))]) (st' := []) rfl rfl rfl ?_
                    refine mi_wp_p (pc' := 113) (st' := [.int (Int32.ofInt 1)]) rfl rfl rfl ?_
                    refine mi_s_if1 (t := 128) rfl rfl rfl (by unfold mi_R; omega) (fun hc_ => absurd (show (1 : Int) = 0 from hc_) (by omega)) (fun _ => ?_)
                    refine mi_wp_p (pc' := 117) (st' := [.int (Int32.ofInt nd)]) rfl rfl rfl ?_
                    refine mi_wp_p (pc' := 118) (st' := [.ref 9, .int (Int32.ofInt nd)]) rfl rfl rfl ?_
                    refine ty_s_gf (x := mi_sF σ 9 9) S rfl rfl rfl (List.mem_of_getElem? (i := 7) rfl) rfl ?_
                    refine mi_s_if2 (t := 128) rfl rfl rfl (by unfold mi_R; omega) (by unfold mi_R; omega) ?_ ?_
                    · intro (c15 : nd < (mi_sF σ 9 9))
                      refine mi_wp_p (pc' := 129) (st' := [.ref 9]) rfl rfl rfl ?_
                      refine mi_wp_p (pc' := 130) (st' := [.int (Int32.ofInt (mi_sA σ 10 nd)), .ref 9]) rfl rfl rfl ?_
                      refine mi_wp_p (pc' := 132) (st' := [.int (Int32.ofInt N0), .int (Int32.ofInt (mi_sA σ 10 nd)), .ref 9]) rfl rfl rfl ?_
                      refine mi_wp_p (pc' := 134) (st' := [.int (Int32.ofInt N1), .int (Int32.ofInt N0), .int (Int32.ofInt (mi_sA σ 10 nd)), .ref 9]) rfl rfl rfl ?_
                      refine mi_wp_p (pc' := 136) (st' := [.int (Int32.ofInt N2), .int (Int32.ofInt N1), .int (Int32.ofInt N0), .int (Int32.ofInt (mi_sA σ 10 nd)), .ref 9]) rfl rfl rfl ?_
                      refine ty_s_ci rfl rfl rfl rfl rfl rfl (mi_cal_v2 (np := 4) (args := [.ref 9, .int (Int32.ofInt (mi_sA σ 10 nd)), .int (Int32.ofInt N0), .int (Int32.ofInt N1), .int (Int32.ofInt N2)]) (rest := []) rfl rfl rfl rfl rfl (Nat.le_of_ble_eq_true rfl) rfl rfl (Nat.le_of_ble_eq_true rfl) (ty_rcS S (List.mem_of_getElem? (i := 5) rfl))) (Nat.le_of_ble_eq_true rfl) S (ty_make hu5) ?_
                      intro x hh σ1 S f P
                      obtain ⟨q1, q2⟩ := P
                      rw [q2] at S
                      rw [q1]
                      clear q1 q2
                      replace fr := mi_Fm_tr fr f
                      exact ty_s_ret S fr rfl rfl rfl (mi_ret_i rfl) ⟨_, rfl, Or.inr ⟨rfl, Or.inr ⟨by omega, rfl⟩⟩⟩
                    · intro (c15 : ¬ (nd < (mi_sF σ 9 9)))
                      refine mi_wp_p (pc' := 125) (st' := [.int (Int32.ofInt nd)]) rfl rfl rfl ?_
                      refine mi_wp_p (pc' := 139) rfl rfl rfl ?_
                      exact ty_s_ret S fr rfl rfl rfl (mi_ret_i rfl) ⟨_, rfl, Or.inl ⟨rfl, rfl, by omega⟩⟩
            · intro (c11 : ¬ ((mi_sA σ 10 nd) ≠ 4))
              refine mi_wp_p (pc' := 39) (st' := [.ref 9]) rfl rfl rfl ?_
              refine mi_wp_p (pc' := 40) (st' := [.int (Int32.ofInt 3), .ref 9]) rfl rfl rfl ?_
              refine mi_wp_p (pc' := 41) (st' := [.int (Int32.ofInt 0), .int (Int32.ofInt 3), .ref 9]) rfl rfl rfl ?_
              refine mi_wp_p (pc' := 42) (st' := [.int (Int32.ofInt 0), .int (Int32.ofInt 0), .int (Int32.ofInt 3), .ref 9]) rfl rfl rfl ?_
              refine mi_wp_p (pc' := 43) (st' := [.int (Int32.ofInt 0), .int (Int32.ofInt 0), .int (Int32.ofInt 0), .int (Int32.ofInt 3), .ref 9]) rfl rfl rfl ?_
              refine ty_s_ci rfl rfl rfl rfl rfl rfl (mi_cal_v2 (np := 4) (args := [.ref 9, .int (Int32.ofInt 3), .int (Int32.ofInt 0), .int (Int32.ofInt 0), .int (Int32.ofInt 0)]) (rest := []) rfl rfl rfl rfl rfl (Nat.le_of_ble_eq_true rfl) rfl rfl (Nat.le_of_ble_eq_true rfl) (ty_rcS S (List.mem_of_getElem? (i := 5) rfl))) (Nat.le_of_ble_eq_true rfl) S (ty_make hu5) ?_
              intro x hh σ1 S f P
              obtain ⟨q1, q2⟩ := P
              rw [q2] at S
              rw [q1]
              clear q1 q2
              replace fr := mi_Fm_tr fr f
              exact ty_s_ret S fr rfl rfl rfl (mi_ret_i rfl) ⟨_, rfl, Or.inr ⟨rfl, Or.inl ⟨by omega, by omega, rfl⟩⟩⟩
          · intro (c10 : ¬ (stay = 0))
            refine mi_wp_p (pc' := 32) (st' := [.int (Int32.ofInt nd)]) rfl rfl rfl ?_
            exact ty_s_ret S fr rfl rfl rfl (mi_ret_i rfl) ⟨_, rfl, Or.inl ⟨rfl, rfl, by omega⟩⟩
