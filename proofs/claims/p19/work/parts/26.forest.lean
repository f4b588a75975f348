/-! ===== numbers: drawers, and heights made small ===== -/
theorem pg_0 : ∀ (u m : Nat) (f : Nat → Nat), (∀ i, i < m → f i < u) → (∀ i j, i < j → j < m → f i ≠ f j) → m ≤ u := by
  intro u
  induction u with
  | zero =>
    intro m f h _
    match m, h with
    | 0, _ => exact Nat.le_refl 0
    | m + 1, h => exact absurd (h 0 (Nat.succ_pos _)) (Nat.not_lt_zero _)
  | succ u ih =>
    intro m f h hi
    match m, h, hi with
    | 0, _, _ => exact Nat.zero_le _
    | m + 1, h, hi =>
      refine Nat.succ_le_succ (ih m (fun i => if f i = u then f m else f i) (fun i hm => ?_) (fun i j hij hm => ?_))
      · have h1 := h i (by omega)
        have h2 := h m (by omega)
        have h3 := hi i m hm (by omega)
        split <;> omega
      · have h1 := hi i m (by omega) (by omega)
        have h2 := hi j m (by omega) (by omega)
        have h3 := hi i j hij (by omega)
        split <;> split <;> omega
/-- as many different numbers between 0 and u: at most u - 1 -/
theorem pg_1 {u m : Int} {f : Int → Int} (hu : 0 < u) (h : ∀ i, 0 ≤ i → i < m → 0 < f i ∧ f i < u) (hi : ∀ i j, 0 ≤ i → i < j → j < m → f i ≠ f j) : m ≤ u - 1 := by
  have := pg_0 (u - 1).toNat m.toNat (fun i => (f (i : Int) - 1).toNat) (fun i hm => by
      have := h (i : Int) (by omega) (by omega)
      omega) (fun i j hij hm => by
      have h1 := h (i : Int) (by omega) (by omega)
      have h2 := h (j : Int) (by omega) (by omega)
      have h3 := hi (i : Int) (j : Int) (by omega) (by omega) (by omega)
      omega)
  omega
/-- how many of 1 .. n have a height below c -/
def ct_n (t : Int → Int) (c : Int) : Nat → Int
  | 0 => 0
  | n + 1 => ct_n t c n + if t ((n : Int) + 1) < c then 1 else 0
theorem ct_n_b (t : Int → Int) (c : Int) : ∀ n : Nat, 0 ≤ ct_n t c n ∧ ct_n t c n ≤ n := by
  intro n
  induction n with
  | zero => exact ⟨Int.le_refl _, Int.le_refl _⟩
  | succ n ih =>
    unfold ct_n
    split <;> omega
theorem ct_n_le (t : Int → Int) {c c' : Int} (h : c ≤ c') : ∀ n : Nat, ct_n t c n ≤ ct_n t c' n := by
  intro n
  induction n with
  | zero => exact Int.le_refl _
  | succ n ih =>
    unfold ct_n
    split <;> split <;> omega
theorem ct_n_lt (t : Int → Int) {c' : Int} {m : Int} (h : t m < c') (h0 : 0 < m) : ∀ n : Nat, m ≤ n → ct_n t (t m) n < ct_n t c' n := by
  intro n
  induction n with
  | zero => intro hm; omega
  | succ n ih =>
    intro hm
    unfold ct_n
    by_cases e : m = (n : Int) + 1
    · subst e
      have := ct_n_le t (Int.le_of_lt h) n
      rw [if_neg (Int.lt_irrefl _), if_pos h]
      omega
    · have := ih (by omega)
      split <;> split <;> omega
/-- heights can be made smaller than u -/
theorem ct_small (t : Int → Int) {u : Int} (hu : 0 < u) : ∃ t' : Int → Int, (∀ n, 0 < n → n < u → 0 ≤ t' n ∧ t' n < u) ∧ (∀ n m, 0 < n → n < u → t n < t m → t' n < t' m) ∧ (∀ n m, t n ≤ t m → t' n ≤ t' m) := by
  refine ⟨fun n => ct_n t (t n) (u - 1).toNat, fun n h0 h1 => ?_, fun n m h0 h1 h => ?_, fun n m h => ?_⟩
  · have := ct_n_b t (t n) (u - 1).toNat
    dsimp only
    omega
  · exact ct_n_lt t h h0 _ (by omega)
  · exact ct_n_le t h _
/-! ===== the forest of links, by itself ===== -/
def ty_VL (u f : Int) (L ρ t : Int → Int) : Prop := 2 < u ∧ u ≤ 512 ∧ ρ 0 = 0 ∧ (∀ n : Int, 0 < n → n < u → ty_N L ρ t u n) ∧ f ≤ u ∧ ty_K L ρ f
theorem ty_VL_of {σ : mi_Sg} {ρ t : Int → Int} : ty_V σ ρ t ↔ ty_VL (mi_sF σ 9 8) (mi_sF σ 9 9) (mi_sA σ 12) ρ t := Iff.rfl
/-- a way's heights need no bound -/
def ty_N0 (L ρ t : Int → Int) (u n : Int) : Prop := (0 < L n ∧ L n < u) ∧ ρ (L n) = ρ n ∧ (0 < ρ n ∧ ρ n < u) ∧ (L n = n → ρ n = n) ∧ (ρ n = n → L n = n) ∧ (L n ≠ n → t n < t (L n)) ∧ t n ≤ t (ρ n) ∧ ρ (ρ n) = ρ n
theorem ty_N_cmp {L ρ t : Int → Int} {u : Int} (hu : 0 < u) (W : ∀ n, 0 < n → n < u → ty_N0 L ρ t u n) : ∃ t', ∀ n, 0 < n → n < u → ty_N L ρ t' u n := by
  obtain ⟨t', h1, h2, h3⟩ := ct_small t hu
  refine ⟨t', fun n a b => ?_⟩
  obtain ⟨g1, g2, g3, g4, g5, g6, g7, g8⟩ := W n a b
  exact ⟨g1, g2, g3, g4, g5, fun q => h2 _ _ a b (g6 q), h1 n a b, h3 _ _ g7, g8⟩
theorem ty_VL_drop {u f : Int} {L ρ t : Int → Int} (V : ty_VL u f L ρ t) : ∃ t', ty_VL f f L ρ t' := by
  obtain ⟨v0, v1, v2, v3, v4, v5, v6⟩ := V
  obtain ⟨t', h⟩ := ty_N_cmp (L := L) (ρ := ρ) (t := t) (u := f) (by omega) (fun n a b => by
    obtain ⟨⟨g1, g1b⟩, g2, ⟨g3, g3b⟩, g4, g5, g6, g7, g8, g9⟩ := v3 n a (by omega)
    obtain ⟨k1, k2⟩ := (v6 n a).1 b
    exact ⟨⟨g1, k1⟩, g2, ⟨g3, k2⟩, g4, g5, g6, g8, g9⟩)
  exact ⟨t', by omega, by omega, v2, h, Int.le_refl _, v5, v6⟩
theorem ty_VL_keep {u f : Int} {L ρ t : Int → Int} (V : ty_VL u f L ρ t) : ty_VL u u L ρ t := by
  obtain ⟨v0, v1, v2, v3, v4, v5, v6⟩ := V
  refine ⟨v0, v1, v2, v3, Int.le_refl _, by omega, fun n a => ⟨fun b => ?_, (v6 n a).2⟩⟩
  obtain ⟨⟨g1, g1b⟩, g2, ⟨g3, g3b⟩, -⟩ := v3 n a b
  exact ⟨g1b, g3b⟩
theorem ty_VL_cut {u f : Int} {L ρ t : Int → Int} (V : ty_VL u f L ρ t) : ∃ t', ty_VL 13 13 L ρ t' := by
  obtain ⟨v0, v1, v2, v3, v4, v5, v6⟩ := V
  refine ty_VL_drop (u := u) (f := 13) (t := t) ⟨v0, v1, v2, v3, by omega, Int.le_refl _, fun n a => ⟨(v6 n a).2, (v6 n a).2⟩⟩
theorem ty_VL_make {u f : Int} {L ρ t : Int → Int} (V : ty_VL u f L ρ t) (hu : u < 512) : ∃ t', ty_VL (u + 1) f (fun i => if i = u then u else L i) (fun i => if i = u then u else ρ i) t' := by
  obtain ⟨v0, v1, v2, v3, v4, v5, v6⟩ := V
  refine ⟨fun n => if n = u then 0 else t n, by omega, by omega, ?_, fun n a b => ?_, by omega, v5, fun n a => ⟨fun b => ?_, fun b => ?_⟩⟩
  · show (if (0 : Int) = u then u else ρ 0) = 0
    rw [if_neg (by omega), v2]
  · unfold ty_N
    by_cases e : n = u
    · subst e
      simp only [if_true]
      refine ⟨⟨a, by omega⟩, ?_, ⟨a, by omega⟩, ?_, ?_, ?_, ⟨?_, ?_⟩, ?_, ?_⟩ <;> first | trivial | omega | (intro q; first | trivial | exact absurd rfl q)
    · obtain ⟨⟨g1, g1b⟩, g2, ⟨g3, g3b⟩, g4, g5, g6, ⟨g7, g7b⟩, g8, g9⟩ := v3 n a (by omega)
      have h1 : L n ≠ u := by omega
      have h2 : ρ n ≠ u := by omega
      simp only [if_neg e, if_neg h1, if_neg h2]
      exact ⟨⟨g1, by omega⟩, g2, ⟨g3, by omega⟩, g4, g5, g6, ⟨g7, by omega⟩, g8, g9⟩
  · have := (v6 n a).1 b
    simp only [if_neg (show n ≠ u by omega)]
    exact this
  · have := (v6 n a).2 b
    simp only [if_neg (show n ≠ u by omega)]
    exact this
/-- two ends are joined: x goes on to y -/
theorem ty_VL_join {u f : Int} {L ρ t : Int → Int} {x y : Int} (V : ty_VL u f L ρ t) (hx0 : 0 < x) (hx1 : x < u) (hx : ρ x = x) (hy0 : 0 < y) (hy1 : y < u) (hy : ρ y = y) (hne : x ≠ y) (hf : x < f → y < f) (hb : x < 13 → y < 13) : ∃ t', ty_VL u f (fun i => if i = x then y else L i) (fun i => if ρ i = x then y else ρ i) t' := by
  obtain ⟨v0, v1, v2, v3, v4, v5, v6⟩ := V
  obtain ⟨t', h⟩ := ty_N_cmp (L := fun i => if i = x then y else L i) (ρ := fun i => if ρ i = x then y else ρ i) (t := fun n => if ρ n = y then t n + u else t n) (u := u) (by omega) (fun n a b => by
    obtain ⟨⟨g1, g1b⟩, g2, ⟨g3, g3b⟩, g4, g5, g6, ⟨g7, g7b⟩, g8, g9⟩ := v3 n a b
    obtain ⟨-, -, -, -, -, -, ⟨ty1, ty2⟩, -, -⟩ := v3 y hy0 hy1
    unfold ty_N0
    by_cases e : n = x
    · subst e
      simp only [if_pos hx, if_true, hy, hx, if_neg hne, if_neg (Ne.symm hne)]
      exact ⟨⟨hy0, hy1⟩, trivial, ⟨hy0, hy1⟩, fun q => absurd q.symm hne, fun q => absurd q.symm hne, fun _ => by omega, by omega, trivial⟩
    · simp only [if_neg e, g2]
      by_cases e1 : ρ n = x
      · have e2 : ρ n ≠ y := fun q => hne (e1.symm.trans q)
        simp only [if_pos e1, hy, if_neg (Ne.symm hne), if_true, if_neg e2]
        refine ⟨⟨g1, g1b⟩, trivial, ⟨hy0, hy1⟩, fun q => ?_, fun q => ?_, g6, by omega, trivial⟩
        · exact absurd (g4 q) (by omega)
        · exact absurd (q ▸ hy) (by omega)
      · simp only [if_neg e1, g9]
        refine ⟨⟨g1, g1b⟩, trivial, ⟨g3, g3b⟩, g4, g5, fun q => ?_, ?_, trivial⟩
        · have := g6 q
          split <;> omega
        · split <;> omega)
  refine ⟨t', v0, v1, ?_, h, v4, v5, fun n a => ⟨fun b => ?_, fun b => ?_⟩⟩
  · dsimp only
    rw [v2, if_neg (by omega)]
  · obtain ⟨k1, k2⟩ := (v6 n a).1 b
    dsimp only
    constructor
    · split
      next e => subst e; exact hf b
      next => exact k1
    · split
      next e => exact hf (by omega)
      next => exact k2
  · obtain ⟨k1, k2⟩ := (v6 n a).2 b
    dsimp only
    constructor
    · split
      next e => subst e; exact hb b
      next => exact k1
    · split
      next e => exact hb (by omega)
      next => exact k2
