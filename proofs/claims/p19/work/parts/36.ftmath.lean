/-! ===== fits, its mathematics ===== -/
def fx (tag : Int → Int) (θ : Nat → tr) : Prop := ∀ v : Nat, tag (v : Int) = 4 → θ v = .var v
def ft_m (Sx : Int → Prop) (tag ρ : Int → Int) (K : Int → Int → Int) (n : Int) : Prop := ∃ m, Sx m ∧ m < n ∧ ρ m = ρ n ∧ tag m = tag n ∧ ∀ k, 0 ≤ k → k < 3 → ρ (K n k) = ρ (K m k)
/-- inside fits: nd is the node whose kids are being joined, or 0 -/
def ft_I (Sx : Int → Prop) (T : Int → tr) (tag : Int → Int) (K : Int → Int → Int) (a b nd : Int) (ρ od : Int → Int) (c w : Int) : Prop :=
  (∀ n, Sx n → Sx (ρ n) ∧ ρ (ρ n) = ρ n) ∧
  (∀ θ, fx tag θ → sb θ (T a) = sb θ (T b) → ∀ n, Sx n → sb θ (T (ρ n)) = sb θ (T n)) ∧
  (∀ n, Sx n → tag n ≠ 3 → tag (ρ n) = tag n ∧ ρ n ≤ n) ∧
  (∀ n, Sx n → tag n ≠ 3 → ρ n = n ∨ (∃ i, (0 ≤ i ∧ i < w) ∧ od i = n) ∨ ft_m Sx tag ρ K n ∨ n = nd) ∧
  (∀ i, 0 ≤ i → i < w → Sx (od i) ∧ tag (od i) ≠ 3 ∧ ρ (od i) ≠ od i) ∧
  ((0 ≤ w ∧ 0 ≤ c) ∧ ∃ pu : Int → Int, (∀ i, 0 ≤ i → i < c + w → Sx (pu i) ∧ ρ (pu i) ≠ pu i) ∧ ∀ i j, 0 ≤ i → i < j → j < c + w → pu i ≠ pu j) ∧
  ρ 0 = 0 ∧
  (∀ n, Sx n → tag n = 4 → ρ n = n)
section FT
variable {Sx : Int → Prop} {T : Int → tr} {tag : Int → Int} {K : Int → Int → Int} {a b nd : Int} {ρ od ρ' od' : Int → Int} {c w x y : Int}
theorem ft_U (I : ft_I Sx T tag K a b nd ρ od c w) (hS0 : ∀ n, Sx n → 0 < n) (hx : Sx x) (hy : Sx y) (rx : ρ x = x) (ry : ρ y = y) (hne : x ≠ y) (ht : tag x = 3) (he : ∀ θ, fx tag θ → sb θ (T a) = sb θ (T b) → sb θ (T x) = sb θ (T y)) (r : ∀ n, ρ' n = if ρ n = x then y else ρ n) : ft_I Sx T tag K a b nd ρ' od c w := by
  obtain ⟨iA, iB, iC, iD, iE, ⟨iF, pu, p1, p2⟩, iG, iH⟩ := I
  have nx : ∀ n, Sx n → tag n ≠ 3 → ρ' n = ρ n := fun n hn hq => by
    rw [r, if_neg (fun q => by have := (iC n hn hq).1; rw [q] at this; omega)]
  refine ⟨fun n hn => ?_, fun θ h1 h2 n hn => ?_, fun n hn hq => ?_, fun n hn hq => ?_, fun i h0 h1 => ?_, ⟨iF, pu, fun i h0 h1 => ?_, p2⟩, ?_, fun n hn hq => ?_⟩
  · obtain ⟨q1, q2⟩ := iA n hn
    rw [r n]
    by_cases e : ρ n = x
    · rw [if_pos e]
      exact ⟨hy, by rw [r, if_neg (by rw [ry]; exact Ne.symm hne), ry]⟩
    · rw [if_neg e]
      exact ⟨q1, by rw [r, if_neg (by rw [q2]; exact e), q2]⟩
  · rw [r n]
    by_cases e : ρ n = x
    · rw [if_pos e, ← he θ h1 h2, ← e]
      exact iB θ h1 h2 n hn
    · rw [if_neg e]
      exact iB θ h1 h2 n hn
  · rw [nx n hn hq]
    exact iC n hn hq
  · rcases iD n hn hq with q | q | ⟨m, m1, m2, m3, m4, m5⟩ | q
    · exact Or.inl (by rw [nx n hn hq]; exact q)
    · exact Or.inr (Or.inl q)
    · exact Or.inr (Or.inr (Or.inl ⟨m, m1, m2, by rw [r, r, m3], m4, fun k k0 k1 => by rw [r, r, m5 k k0 k1]⟩))
    · exact Or.inr (Or.inr (Or.inr q))
  · obtain ⟨e1, e2, e3⟩ := iE i h0 h1
    exact ⟨e1, e2, by rw [nx _ e1 e2]; exact e3⟩
  · obtain ⟨e1, e2⟩ := p1 i h0 h1
    refine ⟨e1, ?_⟩
    rw [r]
    split
    · exact fun q => e2 (by rw [← q]; exact ry)
    · exact e2
  · have := hS0 x hx
    rw [r, iG, if_neg (by omega)]
  · rw [nx n hn (by omega)]
    exact iH n hn hq
theorem ft_N (I : ft_I Sx T tag K a b nd ρ od c w) (hS0 : ∀ n, Sx n → 0 < n) (hx : Sx x) (hy : Sx y) (rx : ρ x = x) (ry : ρ y = y) (hlt : y < x) (ht : tag x ≠ 3) (ht4 : tag x ≠ 4) (hxy : tag y = tag x) (he : ∀ θ, fx tag θ → sb θ (T a) = sb θ (T b) → sb θ (T x) = sb θ (T y)) (r : ∀ n, ρ' n = if ρ n = x then y else ρ n) (o1 : od' w = x) (o2 : ∀ i, i ≠ w → od' i = od i) : ft_I Sx T tag K a b nd ρ' od' c (w + 1) := by
  obtain ⟨iA, iB, iC, iD, iE, ⟨iF, pu, p1, p2⟩, iG, iH⟩ := I
  have hne : x ≠ y := by omega
  refine ⟨fun n hn => ?_, fun θ h1 h2 n hn => ?_, fun n hn hq => ?_, fun n hn hq => ?_, fun i h0 h1 => ?_, ⟨by omega, fun i => if i = c + w then x else pu i, fun i h0 h1 => ?_, fun i j h0 h1 h2 => ?_⟩, ?_, fun n hn hq => ?_⟩
  · obtain ⟨q1, q2⟩ := iA n hn
    rw [r n]
    by_cases e : ρ n = x
    · rw [if_pos e]
      exact ⟨hy, by rw [r, if_neg (by rw [ry]; exact Ne.symm hne), ry]⟩
    · rw [if_neg e]
      exact ⟨q1, by rw [r, if_neg (by rw [q2]; exact e), q2]⟩
  · rw [r n]
    by_cases e : ρ n = x
    · rw [if_pos e, ← he θ h1 h2, ← e]
      exact iB θ h1 h2 n hn
    · rw [if_neg e]
      exact iB θ h1 h2 n hn
  · obtain ⟨q1, q2⟩ := iC n hn hq
    rw [r n]
    by_cases e : ρ n = x
    · rw [if_pos e, hxy, ← e]
      exact ⟨q1, by omega⟩
    · rw [if_neg e]
      exact ⟨q1, q2⟩
  · rcases iD n hn hq with q | ⟨i, ⟨q0, q1⟩, q2⟩ | ⟨m, m1, m2, m3, m4, m5⟩ | q
    · by_cases e : n = x
      · exact Or.inr (Or.inl ⟨w, by omega, by rw [o1, e]⟩)
      · exact Or.inl (by rw [r, if_neg (by rw [q]; exact e)]; exact q)
    · exact Or.inr (Or.inl ⟨i, by omega, by rw [o2 i (by omega)]; exact q2⟩)
    · exact Or.inr (Or.inr (Or.inl ⟨m, m1, m2, by rw [r, r, m3], m4, fun k k0 k1 => by rw [r, r, m5 k k0 k1]⟩))
    · exact Or.inr (Or.inr (Or.inr q))
  · by_cases e : i = w
    · rw [e, o1]
      exact ⟨hx, ht, by rw [r, if_pos rx]; exact Ne.symm hne⟩
    · rw [o2 i e]
      obtain ⟨e1, e2, e3⟩ := iE i h0 (by omega)
      refine ⟨e1, e2, ?_⟩
      rw [r]
      split
      · exact fun q => e3 (by rw [← q]; exact ry)
      · exact e3
  · by_cases e : i = c + w
    · dsimp only
      rw [if_pos e]
      exact ⟨hx, by rw [r, if_pos rx]; exact Ne.symm hne⟩
    · dsimp only
      rw [if_neg e]
      obtain ⟨e1, e2⟩ := p1 i h0 (by omega)
      refine ⟨e1, ?_⟩
      rw [r]
      split
      · exact fun q => e2 (by rw [← q]; exact ry)
      · exact e2
  · dsimp only
    rw [if_neg (show i ≠ c + w by omega)]
    by_cases e : j = c + w
    · rw [if_pos e]
      exact fun q => (p1 i h0 (by omega)).2 (by rw [q]; exact rx)
    · rw [if_neg e]
      exact p2 i j h0 h1 (by omega)
  · have := hS0 x hx
    rw [r, iG, if_neg (by omega)]
  · have := iH n hn hq
    rw [r, if_neg (fun q => ht4 (by rw [← q, this]; exact hq))]
    exact this
theorem ft_pop (I : ft_I Sx T tag K a b 0 ρ od c w) (hS0 : ∀ n, Sx n → 0 < n) (hw : 0 < w) : ft_I Sx T tag K a b (od (w - 1)) ρ od (c + 1) (w - 1) := by
  obtain ⟨iA, iB, iC, iD, iE, ⟨iF, pu, p1, p2⟩, iG, iH⟩ := I
  refine ⟨iA, iB, iC, fun n hn hq => ?_, fun i h0 h1 => iE i h0 (by omega), ⟨by omega, pu, fun i h0 h1 => p1 i h0 (by omega), fun i j h0 h1 h2 => p2 i j h0 h1 (by omega)⟩, iG, iH⟩
  rcases iD n hn hq with q | ⟨i, ⟨q0, q1⟩, q2⟩ | q | q
  · exact Or.inl q
  · by_cases e : i = w - 1
    · exact Or.inr (Or.inr (Or.inr (by rw [← q2, e])))
    · exact Or.inr (Or.inl ⟨i, by omega, q2⟩)
  · exact Or.inr (Or.inr (Or.inl q))
  · have := hS0 n hn
    omega
theorem ft_done (I : ft_I Sx T tag K a b nd ρ od c w) (h : ft_m Sx tag ρ K nd) : ft_I Sx T tag K a b 0 ρ od c w := by
  obtain ⟨iA, iB, iC, iD, iE, iF, iG, iH⟩ := I
  refine ⟨iA, iB, iC, fun n hn hq => ?_, iE, iF, iG, iH⟩
  rcases iD n hn hq with q | q | q | q
  · exact Or.inl q
  · exact Or.inr (Or.inl q)
  · exact Or.inr (Or.inr (Or.inl q))
  · subst q
    exact Or.inr (Or.inr (Or.inl h))
/-- at the end kids of joined nodes are joined -/
theorem ft_cong (I : ft_I Sx T tag K a b 0 ρ od c 0) (hS0 : ∀ n, Sx n → 0 < n) : ∀ (m : Nat) (n : Int), n.toNat = m → Sx n → tag n ≠ 3 → ∀ k, 0 ≤ k → k < 3 → ρ (K n k) = ρ (K (ρ n) k) := by
  obtain ⟨iA, iB, iC, iD, iE, iF, iG, iH⟩ := I
  intro m
  induction m using Nat.strongRecOn with
  | ind m ih =>
    intro n hm hn hq k k0 k1
    have h0 := hS0 n hn
    rcases iD n hn hq with q | ⟨i, ⟨q0, q1⟩, q2⟩ | ⟨m', m1, m2, m3, m4, m5⟩ | q
    · rw [q]
    · omega
    · have h1 := hS0 m' m1
      rw [m5 k k0 k1, ih m'.toNat (by omega) m' rfl m1 (by omega) k k0 k1, m3]
    · omega
theorem ft_cnt (I : ft_I Sx T tag K a b nd ρ od c w) {u : Int} (hu : 0 < u) (hS : ∀ n, Sx n → 0 < n ∧ n < u) : c + w ≤ u - 1 ∧ 0 ≤ w ∧ 0 ≤ c := by
  obtain ⟨iA, iB, iC, iD, iE, ⟨iF, pu, p1, p2⟩, iG, iH⟩ := I
  exact ⟨pg_1 hu (fun i h0 h1 => hS _ (p1 i h0 h1).1) p2, iF.1, iF.2⟩
theorem ft_0 (hS : ∀ n, Sx n → 0 < n ∧ ρ n = n) (h0 : ρ 0 = 0) : ft_I Sx T tag K a b 0 ρ od 0 0 := by
  refine ⟨fun n hn => ?_, fun θ _ _ n hn => by rw [(hS n hn).2], fun n hn _ => ?_, fun n hn _ => Or.inl (hS n hn).2, fun i a b => by omega, ⟨by omega, fun _ => 0, fun i a b => by omega, fun i j a b c => by omega⟩, h0, fun n hn _ => (hS n hn).2⟩
  · rw [(hS n hn).2, (hS n hn).2]
    exact ⟨hn, rfl⟩
  · rw [(hS n hn).2]
    exact ⟨rfl, Int.le_refl _⟩
end FT
/-- two ends of different kinds fit nothing -/
theorem ft_clash {σ : mi_Sg} {Sx : Int → Prop} {T : Int → tr} (H : ty_T σ Sx T) {x y : Int} (hx : Sx x) (hy : Sx y) (hne : x ≠ y) (h3 : mi_sA σ 10 x ≠ 3) (h3' : mi_sA σ 10 y ≠ 3) (hc : mi_sA σ 10 x ≠ mi_sA σ 10 y ∨ mi_sA σ 10 x = 4) {θ : Nat → tr} (hθ : fx (mi_sA σ 10) θ) : sb θ (T x) ≠ sb θ (T y) := by
  obtain ⟨g1, -, g3, -, g5, g6, -⟩ := H.2 x hx
  obtain ⟨g1', -, g3', -, g5', g6', -⟩ := H.2 y hy
  have mk : ∀ z, 0 < z → mi_sA σ 10 z = 4 → θ z.toNat = .var z.toNat := fun z hz q => hθ z.toNat (by rw [show ((z.toNat : Nat) : Int) = z by omega]; exact q)
  intro q
  by_cases e : mi_sA σ 10 x = 4
  · rw [(g5 (Or.inr e)).1, show sb θ (.var x.toNat) = θ x.toNat from rfl, mk x g1.1 e] at q
    by_cases e' : mi_sA σ 10 y = 4
    · rw [(g5' (Or.inr e')).1, show sb θ (.var y.toNat) = θ y.toNat from rfl, mk y g1'.1 e'] at q
      injection q with q
      have q' : x.toNat = y.toNat := q
      omega
    · rw [g6' h3' e', sb_tn] at q
      exact tn_var q.symm
  · by_cases e' : mi_sA σ 10 y = 4
    · rw [(g5' (Or.inr e')).1, show sb θ (.var y.toNat) = θ y.toNat from rfl, mk y g1'.1 e', g6 h3 e, sb_tn] at q
      exact tn_var q
    · rw [g6 h3 e, g6' h3' e', sb_tn, sb_tn] at q
      have := (tn_inj q).1
      omega
/-- nodes of one kind that become the same: so do their kids -/
theorem ft_kids {σ : mi_Sg} {Sx : Int → Prop} {T : Int → tr} (H : ty_T σ Sx T) {x y : Int} (hx : Sx x) (hy : Sx y) (h3 : mi_sA σ 10 x ≠ 3) (h4 : mi_sA σ 10 x ≠ 4) (hc : mi_sA σ 10 x = mi_sA σ 10 y) {θ : Nat → tr} (q : sb θ (T x) = sb θ (T y)) {k : Int} (k0 : 0 ≤ k) (k1 : k < 3) : sb θ (T (ty_K' σ x k)) = sb θ (T (ty_K' σ y k)) := by
  obtain ⟨g1, -, g3, -, g5, g6, -⟩ := H.2 x hx
  obtain ⟨g1', -, g3', -, g5', g6', -⟩ := H.2 y hy
  rw [g6 h3 h4, g6' (by omega) (by omega), sb_tn, sb_tn] at q
  obtain ⟨-, q0, q1, q2⟩ := tn_inj q
  obtain rfl | rfl | rfl : k = 0 ∨ k = 1 ∨ k = 2 := by omega
  · exact q0
  · exact q1
  · exact q2
/-- the tree of a node, by so many steps -/
def tr_b (tag : Int → Int) (K : Int → Int → Int) : Nat → Int → tr
  | 0, _ => .num 0
  | f + 1, n => if n = 0 then .num 0 else if tag n = 3 ∨ tag n = 4 then .var n.toNat else tn (tag n) (tr_b tag K f (K n 0)) (tr_b tag K f (K n 1)) (tr_b tag K f (K n 2))
theorem tr_b_st {tag : Int → Int} {K : Int → Int → Int} {B : Int → Prop} {pos : Int → Int} (hB : ∀ n, B n → 0 ≤ pos n ∧ ∀ k, 0 ≤ k → k < 3 → K n k = 0 ∨ (B (K n k) ∧ pos (K n k) < pos n)) : ∀ (f f' : Nat) (n : Int), (n = 0 ∨ (B n ∧ pos n < f ∧ pos n < f')) → tr_b tag K f n = tr_b tag K f' n
  | 0, 0, _, _ => rfl
  | 0, f' + 1, n, h => by
    rcases h with h | ⟨h1, h2, h3⟩
    · unfold tr_b
      rw [if_pos h]
    · have := (hB n h1).1
      omega
  | f + 1, 0, n, h => by
    rcases h with h | ⟨h1, h2, h3⟩
    · unfold tr_b
      rw [if_pos h]
    · have := (hB n h1).1
      omega
  | f + 1, f' + 1, n, h => by
    unfold tr_b
    by_cases e : n = 0
    · rw [if_pos e, if_pos e]
    · rw [if_neg e, if_neg e]
      by_cases e2 : tag n = 3 ∨ tag n = 4
      · rw [if_pos e2, if_pos e2]
      · rw [if_neg e2, if_neg e2]
        obtain ⟨h1, h2, h3⟩ := h.resolve_left e
        have kk : ∀ k, 0 ≤ k → k < 3 → tr_b tag K f (K n k) = tr_b tag K f' (K n k) := fun k k0 k1 => tr_b_st hB f f' _ (by
          rcases (hB n h1).2 k k0 k1 with q | ⟨q1, q2⟩
          · exact Or.inl q
          · exact Or.inr ⟨q1, by omega, by omega⟩)
        rw [kk 0 (by omega) (by omega), kk 1 (by omega) (by omega), kk 2 (by omega) (by omega)]
