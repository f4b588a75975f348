/-! ===== gather, its mathematics: black nodes lie in the order, kids first; grey ones on the path ===== -/
def sm_n (f : Int → Int) : Nat → Int
  | 0 => 0
  | n + 1 => sm_n f n + f (n : Int)
theorem sm_n_eq {f f' : Int → Int} : ∀ n : Nat, (∀ i : Int, 0 ≤ i → i < n → f i = f' i) → sm_n f n = sm_n f' n
  | 0, _ => rfl
  | n + 1, h => by
    unfold sm_n
    rw [sm_n_eq n (fun i a b => h i a (by omega)), h n (by omega) (by omega)]
theorem sm_n_le {f : Int → Int} {c : Int} : ∀ n : Nat, (∀ i : Int, 0 ≤ i → i < n → f i ≤ c) → sm_n f n ≤ c * n
  | 0, _ => by simp [sm_n]
  | n + 1, h => by
    unfold sm_n
    have h1 := sm_n_le n (fun i a b => h i a (by omega))
    have h2 := h n (by omega) (by omega)
    rw [show ((n + 1 : Nat) : Int) = (n : Int) + 1 by omega, Int.mul_add, Int.mul_one]
    omega
theorem sm_n_s {f : Int → Int} {p : Int} (hp : 0 < p) : sm_n f p.toNat = sm_n f (p - 1).toNat + f (p - 1) := by
  have : p.toNat = (p - 1).toNat + 1 := by omega
  rw [this]
  show sm_n f (p - 1).toNat + f (((p - 1).toNat : Nat) : Int) = _
  rw [show (((p - 1).toNat : Nat) : Int) = p - 1 by omega]
def ga_b (ρ sn od pos : Int → Int) (K : Int → Int → Int) (u r g : Int) : Prop :=
  (∀ i, 0 ≤ i → i < g → (0 < od i ∧ od i < u) ∧ sn (od i) = 2 * r + 1 ∧ pos (od i) = i) ∧
  (∀ n, 0 < n → n < u → sn n = 2 * r + 1 → (0 ≤ pos n ∧ pos n < g) ∧ od (pos n) = n ∧ ρ n = n ∧ ∀ k, 0 ≤ k → k < 3 → K n k = 0 ∨ (sn (K n k) = 2 * r + 1 ∧ pos (K n k) < pos n)) ∧
  (∀ n, 0 ≤ n → n < u → 0 ≤ sn n ∧ sn n ≤ 2 * r + 1) ∧ sn 0 = 0
def ga_p (ρ sn nt pt dep : Int → Int) (K : Int → Int → Int) (u r p : Int) : Prop :=
  (∀ i, 0 ≤ i → i < p → (0 < pt i ∧ pt i < u) ∧ ρ (pt i) = pt i ∧ sn (pt i) = 2 * r ∧ dep (pt i) = i ∧ (0 ≤ nt (pt i) ∧ nt (pt i) ≤ 3) ∧ (∀ k, 0 ≤ k → k < nt (pt i) → K (pt i) k = 0 ∨ sn (K (pt i) k) = 2 * r + 1 ∨ (i + 1 < p ∧ k = nt (pt i) - 1 ∧ K (pt i) k = pt (i + 1)))) ∧
  (∀ n, 0 < n → n < u → sn n = 2 * r → (0 ≤ dep n ∧ dep n < p) ∧ pt (dep n) = n)
/-- heights that fall from a node to its kids -/
def ga_z (Sx : Int → Prop) (K : Int → Int → Int) (u : Int) (sz : Int → Int) : Prop := ∀ n, Sx n → 0 < n → n < u → ∀ k, 0 ≤ k → k < 3 → K n k ≠ 0 → sz (K n k) < sz n
def ga_e (Sx : Int → Prop) (K : Int → Int → Int) (u p : Int) (pt : Int → Int) : Prop := ∀ sz, ga_z Sx K u sz → ∀ i j, 0 ≤ i → i < j → j < p → sz (pt j) < sz (pt i)
def ga_I (Sx : Int → Prop) (x0 g0 : Int) (od0 sn0 ρ : Int → Int) (K : Int → Int → Int) (u r g p c : Int) (sn nt od pt : Int → Int) : Prop := ∃ pos dep, (0 ≤ g0 ∧ g0 ≤ g ∧ 0 ≤ p) ∧ ga_b ρ sn od pos K u r g ∧ ga_p ρ sn nt pt dep K u r p ∧ ga_e Sx K u p pt ∧ ((∀ i, g0 ≤ i → i < g → Sx (od i)) ∧ (∀ i, 0 ≤ i → i < p → Sx (pt i))) ∧ (∀ i, 0 ≤ i → i < g0 → od i = od0 i) ∧ c = 4 * (g - g0) + sm_n (fun i => nt (pt i)) p.toNat ∧ (x0 = 0 ∨ sn x0 = 2 * r + 1 ∨ (0 < p ∧ pt 0 = x0)) ∧ (∀ n, 0 < n → n < u → sn0 n = 2 * r + 1 → sn n = 2 * r + 1)
section GA
variable {Sx : Int → Prop} {x0 g0 : Int} {od0 sn0 ρ : Int → Int} {K : Int → Int → Int} {u r g p c : Int} {sn nt od pt sn' nt' od' pt' : Int → Int}
/-- the top of the path becomes black -/
theorem ga_pop (hK : ∀ n k, 0 < n → n < u → 0 ≤ k → k < 3 → 0 ≤ K n k ∧ K n k < u) (I : ga_I Sx x0 g0 od0 sn0 ρ K u r g p c sn nt od pt) (hp : 0 < p) (ht : 3 ≤ nt (pt (p - 1))) (s1 : sn' (pt (p - 1)) = 2 * r + 1) (s2 : ∀ i, i ≠ pt (p - 1) → sn' i = sn i) (o1 : od' g = pt (p - 1)) (o2 : ∀ i, i ≠ g → od' i = od i) : ga_I Sx x0 g0 od0 sn0 ρ K u r (g + 1) (p - 1) (c + 1) sn' nt od' pt := by
  obtain ⟨pos, dep, ⟨a1, a2, a3⟩, ⟨b1, b2, b3, b4⟩, ⟨p1, p2⟩, e, ⟨z1, z2⟩, o, hc, hx, ho⟩ := I
  obtain ⟨⟨n1, n2⟩, n3, n4, n5, ⟨n6, n6b⟩, n7⟩ := p1 (p - 1) (by omega) (by omega)
  refine ⟨fun i => if i = pt (p - 1) then g else pos i, dep, ⟨a1, by omega, by omega⟩, ⟨fun i h0 h1 => ?_, fun n h0 h1 h2 => ?_, fun n h0 h1 => ?_, by rw [s2 0 (by omega)]; exact b4⟩, ⟨fun i h0 h1 => ?_, fun n h0 h1 h2 => ?_⟩, fun sz hz i j q1 q2 q3 => e sz hz i j q1 q2 (by omega), ⟨fun i h0 h1 => ?_, fun i h0 h1 => z2 i h0 (by omega)⟩, fun i h0 h1 => ?_, ?_, ?_, fun n h0 h1 h2 => ?_⟩
  · by_cases e1 : i = g
    · subst e1
      rw [o1]
      exact ⟨⟨n1, n2⟩, s1, if_pos rfl⟩
    · rw [o2 i e1]
      obtain ⟨q1, q2, q3⟩ := b1 i h0 (by omega)
      have hne : od i ≠ pt (p - 1) := fun q => by rw [q] at q2; omega
      exact ⟨q1, by rw [s2 _ hne]; exact q2, (if_neg hne).trans q3⟩
  · by_cases e1 : n = pt (p - 1)
    · subst e1
      dsimp only
      rw [if_pos rfl]
      refine ⟨⟨by omega, by omega⟩, o1, n3, fun k k0 k1 => ?_⟩
      rcases n7 k k0 (by omega) with q | q | ⟨q, -⟩
      · exact Or.inl q
      · by_cases q0 : K (pt (p - 1)) k = 0
        · exact Or.inl q0
        · have hr := hK _ k n1 n2 k0 k1
          have hne : K (pt (p - 1)) k ≠ pt (p - 1) := fun w => by rw [w] at q; omega
          have := (b2 _ (by omega) hr.2 q).1
          exact Or.inr ⟨by rw [s2 _ hne]; exact q, by rw [if_neg hne]; omega⟩
      · omega
    · rw [s2 n e1] at h2
      dsimp only
      rw [if_neg e1]
      obtain ⟨⟨q1, q1b⟩, q2, q3, q4⟩ := b2 n h0 h1 h2
      refine ⟨⟨q1, by omega⟩, by rw [o2 _ (by omega)]; exact q2, q3, fun k k0 k1 => ?_⟩
      rcases q4 k k0 k1 with w | ⟨w1, w2⟩
      · exact Or.inl w
      · have hne : K n k ≠ pt (p - 1) := fun w => by rw [w] at w1; omega
        exact Or.inr ⟨by rw [s2 _ hne]; exact w1, by rw [if_neg hne]; exact w2⟩
  · by_cases e1 : n = pt (p - 1)
    · have := b3 _ (Int.le_of_lt n1) n2
      rw [e1, s1]; omega
    · rw [s2 n e1]; exact b3 n h0 h1
  · obtain ⟨m1, m3, m4, m5, m6, m7⟩ := p1 i h0 (by omega)
    have hne : pt i ≠ pt (p - 1) := fun q => by rw [q] at m5; omega
    refine ⟨m1, m3, by rw [s2 _ hne]; exact m4, m5, m6, fun k k0 k1 => ?_⟩
    rcases m7 k k0 k1 with q | q | ⟨q1, q2, q3⟩
    · exact Or.inl q
    · refine Or.inr (Or.inl ?_)
      by_cases e1 : K (pt i) k = pt (p - 1)
      · rw [e1, s1]
      · rw [s2 _ e1]; exact q
    · by_cases e1 : i + 1 < p - 1
      · exact Or.inr (Or.inr ⟨e1, q2, q3⟩)
      · refine Or.inr (Or.inl ?_)
        rw [q3, show i + 1 = p - 1 by omega, s1]
  · have hne : n ≠ pt (p - 1) := fun q => by rw [q, s1] at h2; omega
    rw [s2 n hne] at h2
    obtain ⟨⟨q1, q1b⟩, q2⟩ := p2 n h0 h1 h2
    have : dep n ≠ p - 1 := fun q => hne (by rw [← q2, q])
    exact ⟨⟨q1, by omega⟩, q2⟩
  · by_cases e1 : i = g
    · rw [e1, o1]; exact z2 _ (by omega) (by omega)
    · rw [o2 i e1]; exact z1 i h0 (by omega)
  · rw [o2 i (by omega)]
    exact o i h0 h1
  · rw [hc, sm_n_s hp]
    omega
  · rcases hx with q | q | ⟨q1, q2⟩
    · exact Or.inl q
    · refine Or.inr (Or.inl ?_)
      by_cases e1 : x0 = pt (p - 1)
      · rw [e1, s1]
      · rw [s2 _ e1]; exact q
    · by_cases e1 : 0 < p - 1
      · exact Or.inr (Or.inr ⟨e1, q2⟩)
      · refine Or.inr (Or.inl ?_)
        rw [← q2, show (0 : Int) = p - 1 by omega, s1]
  · have := ho n h0 h1 h2
    by_cases e1 : n = pt (p - 1)
    · rw [e1, s1]
    · rw [s2 _ e1]; exact this
/-- a kid that is none, or black -/
theorem ga_kid (I : ga_I Sx x0 g0 od0 sn0 ρ K u r g p c sn nt od pt) (hp : 0 < p) (ht : nt (pt (p - 1)) < 3) (hk : K (pt (p - 1)) (nt (pt (p - 1))) = 0 ∨ sn (K (pt (p - 1)) (nt (pt (p - 1)))) = 2 * r + 1) (t1 : nt' (pt (p - 1)) = nt (pt (p - 1)) + 1) (t2 : ∀ i, i ≠ pt (p - 1) → nt' i = nt i) : ga_I Sx x0 g0 od0 sn0 ρ K u r g p (c + 1) sn nt' od pt := by
  obtain ⟨pos, dep, ⟨a1, a2, a3⟩, ⟨b1, b2, b3, b4⟩, ⟨p1, p2⟩, e, ⟨z1, z2⟩, o, hc, hx, ho⟩ := I
  obtain ⟨⟨n1, n2⟩, n3, n4, n5, ⟨n6, n6b⟩, n7⟩ := p1 (p - 1) (by omega) (by omega)
  have hne : ∀ i, 0 ≤ i → i < p - 1 → pt i ≠ pt (p - 1) := fun i h0 h1 q => by
    obtain ⟨-, -, -, m5, -⟩ := p1 i h0 (by omega)
    rw [q] at m5
    omega
  refine ⟨pos, dep, ⟨a1, a2, a3⟩, ⟨b1, b2, b3, b4⟩, ⟨fun i h0 h1 => ?_, p2⟩, e, ⟨z1, z2⟩, o, ?_, hx, ho⟩
  · obtain ⟨m1, m3, m4, m5, m6, m7⟩ := p1 i h0 h1
    by_cases e1 : i = p - 1
    · subst e1
      refine ⟨m1, m3, m4, m5, by omega, fun k k0 k1 => ?_⟩
      by_cases e2 : k = nt (pt (p - 1))
      · rw [e2]
        rcases hk with q | q
        · exact Or.inl q
        · exact Or.inr (Or.inl q)
      · rcases m7 k k0 (by omega) with q | q | ⟨q, -⟩
        · exact Or.inl q
        · exact Or.inr (Or.inl q)
        · omega
    · have := hne i h0 (by omega)
      rw [t2 _ this]
      exact ⟨m1, m3, m4, m5, m6, m7⟩
  · have h1 : sm_n (fun i => nt' (pt i)) (p - 1).toNat = sm_n (fun i => nt (pt i)) (p - 1).toNat := sm_n_eq _ (fun i h0 h1 => t2 _ (hne i h0 (by omega)))
    have h2 := sm_n_s (f := fun i => nt' (pt i)) hp
    have h3 := sm_n_s (f := fun i => nt (pt i)) hp
    rw [h2, h1]
    rw [h3] at hc
    rw [t1]
    omega
/-- a kid that is white is entered -/
theorem ga_enter (hK : ∀ n k, 0 < n → n < u → 0 ≤ k → k < 3 → 0 ≤ K n k ∧ K n k < u) (hρ : ∀ n k, 0 < n → n < u → 0 ≤ k → k < 3 → ρ (K n k) = K n k) (hS : ∀ n k, Sx n → 0 < n → n < u → 0 ≤ k → k < 3 → K n k ≠ 0 → Sx (K n k)) (I : ga_I Sx x0 g0 od0 sn0 ρ K u r g p c sn nt od pt) (hp : 0 < p) (ht : nt (pt (p - 1)) < 3) {kid : Int} (hkk : K (pt (p - 1)) (nt (pt (p - 1))) = kid) (hk0 : kid ≠ 0) (hk : sn kid < 2 * r)
    (s1 : sn' kid = 2 * r) (s2 : ∀ i, i ≠ kid → sn' i = sn i) (t0 : nt' kid = 0) (t1 : nt' (pt (p - 1)) = nt (pt (p - 1)) + 1) (t2 : ∀ i, i ≠ pt (p - 1) → i ≠ kid → nt' i = nt i) (q1 : pt' p = kid) (q2 : ∀ i, i ≠ p → pt' i = pt i) : ga_I Sx x0 g0 od0 sn0 ρ K u r g (p + 1) (c + 1) sn' nt' od pt' := by
  obtain ⟨pos, dep, ⟨a1, a2, a3⟩, ⟨b1, b2, b3, b4⟩, ⟨p1, p2⟩, e, ⟨z1, z2⟩, o, hc, hx, ho⟩ := I
  obtain ⟨⟨n1, n2⟩, n3, n4, n5, ⟨n6, n6b⟩, n7⟩ := p1 (p - 1) (by omega) (by omega)
  have hkr := hK _ (nt (pt (p - 1))) n1 n2 n6 ht
  have hkρ := hρ _ (nt (pt (p - 1))) n1 n2 n6 ht
  have hkS := hS _ (nt (pt (p - 1))) (z2 (p - 1) (by omega) (by omega)) n1 n2 n6 ht
  rw [hkk] at hkr hkρ hkS
  have hne : ∀ i, 0 ≤ i → i < p - 1 → pt i ≠ pt (p - 1) := fun i h0 h1 q => by
    obtain ⟨-, -, -, m5, -⟩ := p1 i h0 (by omega)
    rw [q] at m5
    omega
  have hnk : ∀ i, 0 ≤ i → i < p → pt i ≠ kid := fun i h0 h1 q => by
    obtain ⟨-, -, m4, -⟩ := p1 i h0 h1
    rw [q] at m4
    omega
  refine ⟨pos, fun i => if i = kid then p else dep i, ⟨a1, a2, by omega⟩, ⟨fun i h0 h1 => ?_, fun n h0 h1 h2 => ?_, fun n h0 h1 => ?_, by rw [s2 0 (Ne.symm hk0)]; exact b4⟩, ⟨fun i h0 h1 => ?_, fun n h0 h1 h2 => ?_⟩, fun sz hz i j w1 w2 w3 => ?_, ⟨z1, fun i h0 h1 => ?_⟩, o, ?_, ?_, fun n h0 h1 h2 => ?_⟩
  · obtain ⟨w1, w2, w3⟩ := b1 i h0 h1
    exact ⟨w1, by rw [s2 _ (fun q => by rw [q] at w2; omega)]; exact w2, w3⟩
  · have hnk' : n ≠ kid := fun q => by rw [q, s1] at h2; omega
    rw [s2 _ hnk'] at h2
    obtain ⟨w1, w2, w3, w4⟩ := b2 n h0 h1 h2
    refine ⟨w1, w2, w3, fun k k0 k1 => ?_⟩
    rcases w4 k k0 k1 with w | ⟨w, w'⟩
    · exact Or.inl w
    · exact Or.inr ⟨by rw [s2 _ (fun q => by rw [q] at w; omega)]; exact w, w'⟩
  · by_cases e1 : n = kid
    · have := b3 _ (Int.le_of_lt n1) n2
      rw [e1, s1]; omega
    · rw [s2 _ e1]; exact b3 n h0 h1
  · by_cases e1 : i = p
    · subst e1
      rw [q1]
      refine ⟨⟨by omega, hkr.2⟩, hkρ, s1, if_pos rfl, by omega, fun k k0 k1 => by omega⟩
    · rw [q2 i e1]
      obtain ⟨m1, m3, m4, m5, m6, m7⟩ := p1 i h0 (by omega)
      have hk2 := hnk i h0 (by omega)
      refine ⟨m1, m3, by rw [s2 _ hk2]; exact m4, (if_neg hk2).trans m5, ?_⟩
      by_cases e2 : i = p - 1
      · subst e2
        rw [t1]
        refine ⟨by omega, fun k k0 k1 => ?_⟩
        by_cases e3 : k = nt (pt (p - 1))
        · refine Or.inr (Or.inr ⟨by omega, by omega, ?_⟩)
          rw [e3, show p - 1 + 1 = p by omega, q1]
          exact hkk
        · rcases m7 k k0 (by omega) with q | q | ⟨q, -⟩
          · exact Or.inl q
          · exact Or.inr (Or.inl (by rw [s2 _ (fun w => by rw [w] at q; omega)]; exact q))
          · omega
      · rw [t2 _ (hne i h0 (by omega)) hk2]
        refine ⟨m6, fun k k0 k1 => ?_⟩
        rcases m7 k k0 k1 with q | q | ⟨w1, w2, w3⟩
        · exact Or.inl q
        · exact Or.inr (Or.inl (by rw [s2 _ (fun w => by rw [w] at q; omega)]; exact q))
        · exact Or.inr (Or.inr ⟨by omega, w2, by rw [q2 _ (by omega)]; exact w3⟩)
  · dsimp only
    by_cases e1 : n = kid
    · rw [if_pos e1, e1]
      exact ⟨⟨by omega, by omega⟩, q1⟩
    · rw [if_neg e1]
      rw [s2 _ e1] at h2
      obtain ⟨⟨w1, w1b⟩, w2⟩ := p2 n h0 h1 h2
      exact ⟨⟨w1, by omega⟩, by rw [q2 _ (by omega)]; exact w2⟩
  · by_cases e1 : j = p
    · rw [e1, q1, q2 i (by omega)]
      have hz1 := hz _ (z2 (p - 1) (by omega) (by omega)) n1 n2 (nt (pt (p - 1))) n6 ht (by rw [hkk]; exact hk0)
      rw [hkk] at hz1
      by_cases e2 : i = p - 1
      · rw [e2]; exact hz1
      · have := e sz hz i (p - 1) w1 (by omega) (by omega)
        omega
    · rw [q2 j e1, q2 i (by omega)]
      exact e sz hz i j w1 w2 (by omega)
  · by_cases e1 : i = p
    · rw [e1, q1]; exact hkS hk0
    · rw [q2 i e1]; exact z2 i h0 (by omega)
  · have h1 : sm_n (fun i => nt' (pt' i)) (p - 1).toNat = sm_n (fun i => nt (pt i)) (p - 1).toNat := sm_n_eq _ (fun i h0 h1 => by
      rw [q2 i (by omega)]
      exact t2 _ (hne i h0 (by omega)) (hnk i h0 (by omega)))
    have h2 := sm_n_s (f := fun i => nt' (pt' i)) (p := p + 1) (by omega)
    have h3 := sm_n_s (f := fun i => nt' (pt' i)) hp
    have h4 := sm_n_s (f := fun i => nt (pt i)) hp
    rw [show p + 1 - 1 = p by omega] at h2
    rw [h2, h3, h1]
    rw [h4] at hc
    rw [q1, t0, q2 (p - 1) (by omega), t1]
    omega
  · rcases hx with q | q | ⟨w1, w2⟩
    · exact Or.inl q
    · exact Or.inr (Or.inl (by rw [s2 _ (fun w => by rw [w] at q; omega)]; exact q))
    · exact Or.inr (Or.inr ⟨by omega, by rw [q2 _ (by omega)]; exact w2⟩)
  · have := ho n h0 h1 h2
    rw [s2 _ (fun w => by rw [w] at this; omega)]
    exact this
/-- a kid that is grey: a type stands in itself -/
theorem ga_cyc (I : ga_I Sx x0 g0 od0 sn0 ρ K u r g p c sn nt od pt) (hK : ∀ n k, 0 < n → n < u → 0 ≤ k → k < 3 → 0 ≤ K n k ∧ K n k < u) (hp : 0 < p) (ht : nt (pt (p - 1)) < 3) (h0' : 0 < r) (hk : sn (K (pt (p - 1)) (nt (pt (p - 1)))) = 2 * r) : ∀ sz, ¬ ga_z Sx K u sz := by
  intro sz hz
  obtain ⟨pos, dep, ⟨a1, a2, a3⟩, ⟨b1, b2, b3, b4⟩, ⟨p1, p2⟩, e, ⟨z1, z2⟩, o, hc, hx, ho⟩ := I
  obtain ⟨⟨n1, n2⟩, n3, n4, n5, ⟨n6, n6b⟩, n7⟩ := p1 (p - 1) (by omega) (by omega)
  have hkr := hK _ (nt (pt (p - 1))) n1 n2 n6 ht
  have hk0 : K (pt (p - 1)) (nt (pt (p - 1))) ≠ 0 := fun q => by rw [q] at hk; omega
  have hz1 := hz _ (z2 (p - 1) (by omega) (by omega)) n1 n2 (nt (pt (p - 1))) n6 ht hk0
  obtain ⟨⟨w1, w1b⟩, w2⟩ := p2 _ (by omega) hkr.2 hk
  by_cases e1 : dep (K (pt (p - 1)) (nt (pt (p - 1)))) = p - 1
  · rw [e1] at w2
    rw [← w2] at hz1
    omega
  · have := e sz hz _ (p - 1) w1 (by omega) (by omega)
    rw [w2] at this
    omega
/-- there is room on the path and in the order, and the counter stays small -/
theorem ga_room (I : ga_I Sx x0 g0 od0 sn0 ρ K u r g p c sn nt od pt) (hu : 0 < u) : g + p ≤ u - 1 ∧ 0 ≤ g ∧ 0 ≤ p ∧ c ≤ 4 * g + 3 * p := by
  obtain ⟨pos, dep, ⟨a1, a2, a3⟩, ⟨b1, b2, b3, b4⟩, ⟨p1, p2⟩, e, ⟨z1, z2⟩, o, hc, hx, ho⟩ := I
  refine ⟨pg_1 (f := fun i => if i < g then od i else pt (i - g)) hu (fun i h0 h1 => ?_) (fun i j h0 h1 h2 => ?_), by omega, a3, ?_⟩
  · split
    next hg => exact (b1 i h0 hg).1
    next hg => exact (p1 (i - g) (by omega) (by omega)).1
  · by_cases hi : i < g
    · rw [if_pos hi]
      obtain ⟨-, v2, v3⟩ := b1 i h0 hi
      by_cases hj : j < g
      · rw [if_pos hj]
        obtain ⟨-, -, w3⟩ := b1 j (by omega) hj
        intro q
        rw [q] at v3
        omega
      · rw [if_neg hj]
        obtain ⟨-, -, w4, -⟩ := p1 (j - g) (by omega) (by omega)
        intro q
        rw [q] at v2
        omega
    · rw [if_neg hi, if_neg (by omega)]
      obtain ⟨-, -, -, w5, -⟩ := p1 (j - g) (by omega) (by omega)
      obtain ⟨-, -, -, v5, -⟩ := p1 (i - g) (by omega) (by omega)
      intro q
      rw [q] at v5
      omega
  · have := sm_n_le (f := fun i => nt (pt i)) (c := 3) p.toNat (fun i h0 h1 => by
      obtain ⟨-, -, -, -, ⟨m6, m6b⟩, -⟩ := p1 i h0 (by omega)
      exact m6b)
    have h3 : ((p.toNat : Nat) : Int) = p := by omega
    rw [h3] at this
    omega
/-- the top of the path -/
theorem ga_top (I : ga_I Sx x0 g0 od0 sn0 ρ K u r g p c sn nt od pt) (hp : 0 < p) : (0 < pt (p - 1) ∧ pt (p - 1) < u) ∧ sn (pt (p - 1)) = 2 * r ∧ 0 ≤ nt (pt (p - 1)) ∧ nt (pt (p - 1)) ≤ 3 ∧ ρ (pt (p - 1)) = pt (p - 1) := by
  obtain ⟨pos, dep, ⟨a1, a2, a3⟩, ⟨b1, b2, b3, b4⟩, ⟨p1, p2⟩, e, ⟨z1, z2⟩, o, hc, hx, ho⟩ := I
  obtain ⟨n1, n3, n4, n5, ⟨n6, n6b⟩, n7⟩ := p1 (p - 1) (by omega) (by omega)
  exact ⟨n1, n4, n6, n6b, n3⟩
theorem ga_sn (I : ga_I Sx x0 g0 od0 sn0 ρ K u r g p c sn nt od pt) {n : Int} (h0 : 0 ≤ n) (h1 : n < u) : 0 ≤ sn n ∧ sn n ≤ 2 * r + 1 := by
  obtain ⟨pos, dep, ⟨a1, a2, a3⟩, ⟨b1, b2, b3, b4⟩, -⟩ := I
  exact b3 n h0 h1
theorem ga_sn0 (I : ga_I Sx x0 g0 od0 sn0 ρ K u r g p c sn nt od pt) : sn 0 = 0 := by
  obtain ⟨pos, dep, ⟨a1, a2, a3⟩, ⟨b1, b2, b3, b4⟩, -⟩ := I
  exact b4
end GA
