/-! ===== what the steps of a form do: nodes for its tree ===== -/
/-- the node of a letter -/
def mkv (σ : mi_Sg) (v : Nat) : tr := .var (mi_sA σ 49 (v : Int)).toNat
def FC (Sx : Int → Prop) (T : Int → tr) (σ : mi_Sg) : Prop := ty_T σ Sx T ∧ ty_Z σ ∧ (kb σ ∧ mi_sF σ 2 0 = 0 ∧ mi_sF σ 48 9 = 0 ∧ mi_sF σ 3 7 ≤ 301) ∧ (∀ L, 0 ≤ L → L < 6 → mi_sA σ 49 L = 0 ∨ (Sx (mi_sA σ 49 L) ∧ mi_sA σ 10 (mi_sA σ 49 L) = 4)) ∧ (∀ L L', 0 ≤ L → L < 6 → 0 ≤ L' → L' < 6 → mi_sA σ 49 L ≠ 0 → mi_sA σ 49 L = mi_sA σ 49 L' → L = L')
def FX (σ σ' : mi_Sg) : Prop := sg_Af [10, 11, 12, 13, 14, 49, 51] [(9, 8), (48, 7)] σ σ' ∧ ty_X σ σ' ∧ ∀ L, 0 ≤ L → L < 6 → mi_sA σ 49 L ≠ 0 → mi_sA σ' 49 L = mi_sA σ 49 L
theorem FX_tr {a b c : mi_Sg} (p : FX a b) (q : FX b c) : FX a c := ⟨sg_Af_tr p.1 q.1, ty_X_tr p.2.1 q.2.1, fun L h0 h1 h2 => by
  have := p.2.2 L h0 h1 h2
  rw [q.2.2 L h0 h1 (by rw [this]; exact h2), this]⟩
theorem FX_v {σ σ' : mi_Sg} (F : sg_Af [51] [(48, 7)] σ σ') : FX σ σ' := by
  refine ⟨sg_Af_w F (by decide) (by decide), ⟨by rw [F.2.2 9 8 (by decide)]; omega, fun n _ _ => ⟨F.2.1 10 n (by decide), F.2.1 12 n (by decide), fun k _ _ => F.2.1 11 _ (by decide)⟩, F.2.1 12 0 (by decide)⟩, fun L _ _ _ => F.2.1 49 L (by decide)⟩
theorem FC_v {Sx : Int → Prop} {T : Int → tr} {σ σ' : mi_Sg} (C : FC Sx T σ) (F : sg_Af [51] [(48, 7)] σ σ') : FC Sx T σ' := by
  obtain ⟨c1, c2, ⟨c3, c4, c5, c6⟩, c7, c8⟩ := C
  have a10 := sg_Af_Ak F (k := 10) (by decide)
  have a11 := sg_Af_Ak F (k := 11) (by decide)
  have a12 := sg_Af_Ak F (k := 12) (by decide)
  have a13 := sg_Af_Ak F (k := 13) (by decide)
  have a19 := sg_Af_Ak F (k := 19) (by decide)
  have a49 := sg_Af_Ak F (k := 49) (by decide)
  have f8 := F.2.2 9 8 (by decide)
  have f11 := F.2.2 9 11 (by decide)
  have hE : ∀ i, mi_sE σ' 18 i = mi_sE σ 18 i := fun i => by unfold mi_sE; rw [F.1]
  refine ⟨?_, ?_, ⟨?_, (F.2.2 2 0 (by decide)).trans c4, (F.2.2 48 9 (by decide)).trans c5, by rw [F.2.2 3 7 (by decide)]; exact c6⟩, ?_, ?_⟩
  · unfold ty_T ty_K' ty_k at c1 ⊢
    rw [a10, a11, a12, f8]
    exact c1
  · unfold ty_Z ty_k at c2 ⊢
    rw [a10, a11, a13, f8, f11]
    exact c2
  · unfold kb at c3 ⊢
    rw [F.2.2 17 12 (by decide), hE, hE, hE, a19]
    exact c3
  · rw [a49, a10]; exact c7
  · rw [a49]; exact c8
theorem FC_u {Sx : Int → Prop} {T : Int → tr} {σ : mi_Sg} (C : FC Sx T σ) {n : Int} (h : Sx n) : (0 < n ∧ n < mi_sF σ 9 8) ∧ mi_sA σ 12 n = n := ⟨(C.1.2 n h).1, (C.1.2 n h).2.1⟩
/-- a node of a constructor is made -/
theorem FC_mk {Sx : Int → Prop} {T : Int → tr} {σ : mi_Sg} {g a b c : Int} (C : FC Sx T σ) (h0 : mi_sA σ 12 0 = 0) (hu0 : 0 < mi_sF σ 9 8) (hg : g = 5 ∨ g = 6 ∨ g = 9) (ha : Sx a) (hb : if g = 9 then b = 0 else Sx b) (hc : c = 0) : FC (fun n => Sx n ∨ n = mi_sF σ 9 8) (fun n => if n = mi_sF σ 9 8 then tn g (T a) (T b) (T c) else T n) (ty_mk σ g a b c) ∧ FX σ (ty_mk σ g a b c) := by
  subst hc
  obtain ⟨c1, c2, ⟨c3, c4, c5, c6⟩, c7, c8⟩ := C
  have ua := c1.2 a ha
  have rb : b = 0 ∨ ((0 < b ∧ b < mi_sF σ 9 8) ∧ mi_sA σ 12 b = b) := by
    split at hb
    · exact Or.inl hb
    · have := c1.2 b hb
      exact Or.inr ⟨this.1, this.2.1⟩
  have rb' : 0 ≤ b ∧ b < mi_sF σ 9 8 := by omega
  obtain ⟨X, m1, m2, m3, m4, m5, m6, m7, m8, m9⟩ := ty_mk_X (σ := σ) (g := g) (a := a) (b := b) (c := 0) hu0
  have F := ty_mk_F (σ := σ) (g := g) (a := a) (b := b) (c := 0)
  have k0 : ty_K' (ty_mk σ g a b 0) (mi_sF σ 9 8) 0 = a := ty_mk_K hu0 h0 (Or.inl ⟨rfl, rfl⟩) (Or.inr ⟨ua.1, ua.2.1⟩)
  have k1 : ty_K' (ty_mk σ g a b 0) (mi_sF σ 9 8) 1 = b := ty_mk_K hu0 h0 (Or.inr (Or.inl ⟨rfl, rfl⟩)) rb
  have k2 : ty_K' (ty_mk σ g a b 0) (mi_sF σ 9 8) 2 = 0 := ty_mk_K hu0 h0 (Or.inr (Or.inr ⟨rfl, rfl⟩)) (Or.inl rfl)
  have HT := ty_X_T (T' := fun n => if n = mi_sF σ 9 8 then tn g (T a) (T b) (T 0) else T n) hu0 X c2.2.1 c1 (fun n p q => if_neg (by omega))
  have e49 : mi_sA (ty_mk σ g a b 0) 49 = mi_sA σ 49 := sg_Af_Ak F (by decide)
  have e19 : mi_sA (ty_mk σ g a b 0) 19 = mi_sA σ 19 := sg_Af_Ak F (by decide)
  have hE : ∀ i, mi_sE (ty_mk σ g a b 0) 18 i = mi_sE σ 18 i := fun i => by unfold mi_sE; rw [F.1]
  have na : a ≠ mi_sF σ 9 8 := by omega
  have nb : b ≠ mi_sF σ 9 8 := by omega
  refine ⟨⟨⟨HT.1, fun n hn => ?_⟩, ty_mk_Z c2 hu0 ⟨by omega, ua.1.2⟩ rb' ⟨by omega, hu0⟩, ⟨?_, (F.2.2 2 0 (by decide)).trans c4, (F.2.2 48 9 (by decide)).trans c5, by rw [F.2.2 3 7 (by decide)]; exact c6⟩, fun L l0 l1 => ?_, ?_⟩, sg_Af_w F (by decide) (by decide), X, fun L _ _ _ => by rw [e49]⟩
  · by_cases e : n = mi_sF σ 9 8
    · rw [e]
      have gg : g ≠ 3 ∧ g ≠ 4 := by omega
      refine ⟨by omega, m2, ⟨by rw [m1]; omega, fun q => by rw [m1] at q; omega⟩, fun k q0 q1 => ?_, fun q => by rw [m1] at q; omega, fun _ _ => ?_, fun k q0 q1 => ?_⟩
      · obtain rfl | rfl | rfl : k = 0 ∨ k = 1 ∨ k = 2 := by omega
        · rw [k0]; exact Or.inr (Or.inl ha)
        · rw [k1]
          split at hb
          · exact Or.inl hb
          · exact Or.inr (Or.inl hb)
        · rw [k2]; exact Or.inl rfl
      · rw [m1, k0, k1, k2]
        dsimp only
        rw [if_pos rfl, if_neg na, if_neg nb, if_neg (by omega)]
      · rw [m1]
        unfold ar
        obtain rfl | rfl | rfl : k = 0 ∨ k = 1 ∨ k = 2 := by omega
        · rw [k0]
          rcases hg with rfl | rfl | rfl <;> simp <;> omega
        · rw [k1]
          rcases hg with rfl | rfl | rfl
          · have := (c1.2 b (by simpa using hb)).1
            simp; omega
          · have := (c1.2 b (by simpa using hb)).1
            simp; omega
          · have : b = 0 := by simpa using hb
            simp [this]
        · rw [k2]
          rcases hg with rfl | rfl | rfl <;> simp
    · obtain ⟨g1, g2, g3, g4, g5, g6, g7⟩ := HT.2 n (hn.resolve_right e)
      exact ⟨g1, g2, g3, fun k q0 q1 => (g4 k q0 q1).imp id Or.inl, g5, g6, g7⟩
  · unfold kb at c3 ⊢
    rw [F.2.2 17 12 (by decide), hE, hE, hE, e19]
    exact c3
  · rw [e49]
    rcases c7 L l0 l1 with q | ⟨q1, q2⟩
    · exact Or.inl q
    · have := c1.2 _ q1
      exact Or.inr ⟨Or.inl q1, by rw [(X.2.1 _ this.1.1 this.1.2).1]; exact q2⟩
  · rw [e49]; exact c8
/-- a mark is made for a letter -/
theorem FC_mark {Sx : Int → Prop} {T : Int → tr} {σ : mi_Sg} {L : Int} (C : FC Sx T σ) (h0 : mi_sA σ 12 0 = 0) (hu0 : 0 < mi_sF σ 9 8) (hL : 0 ≤ L ∧ L < 6) (hz : mi_sA σ 49 L = 0) : FC (fun n => Sx n ∨ n = mi_sF σ 9 8) (fun n => if n = mi_sF σ 9 8 then .var (mi_sF σ 9 8).toNat else T n) (mi_uA (ty_mk σ 4 0 0 0) 49 L (mi_sF σ 9 8)) ∧ FX σ (mi_uA (ty_mk σ 4 0 0 0) 49 L (mi_sF σ 9 8)) := by
  obtain ⟨c1, c2, ⟨c3, c4, c5, c6⟩, c7, c8⟩ := C
  obtain ⟨X, m1, m2, m3, m4, m5, m6, m7, m8, m9⟩ := ty_mk_X (σ := σ) (g := 4) (a := 0) (b := 0) (c := 0) hu0
  have F0 := ty_mk_F (σ := σ) (g := 4) (a := 0) (b := 0) (c := 0)
  have kk : ∀ k, 0 ≤ k → k < 3 → ty_K' (ty_mk σ 4 0 0 0) (mi_sF σ 9 8) k = 0 := fun k q0 q1 => ty_mk_K hu0 h0 (by omega) (Or.inl rfl)
  have HT := ty_X_T (T' := fun n => if n = mi_sF σ 9 8 then .var (mi_sF σ 9 8).toNat else T n) hu0 X c2.2.1 c1 (fun n p q => if_neg (by omega))
  have G : sg_Af [49] [] (ty_mk σ 4 0 0 0) (mi_uA (ty_mk σ 4 0 0 0) 49 L (mi_sF σ 9 8)) := sg_Af_A sg_Af_rf (by decide)
  have a10 := sg_Af_Ak G (k := 10) (by decide)
  have a11 := sg_Af_Ak G (k := 11) (by decide)
  have a12 := sg_Af_Ak G (k := 12) (by decide)
  have a13 := sg_Af_Ak G (k := 13) (by decide)
  have e49 : ∀ i, mi_sA (mi_uA (ty_mk σ 4 0 0 0) 49 L (mi_sF σ 9 8)) 49 i = if i = L then mi_sF σ 9 8 else mi_sA σ 49 i := fun i => by
    have q : mi_sA (ty_mk σ 4 0 0 0) 49 i = mi_sA σ 49 i := F0.2.1 49 i (by decide)
    rw [mi_AA, ← q]
    by_cases e : i = L
    · rw [if_pos ⟨rfl, e⟩, if_pos e]
    · rw [if_neg (fun w => e w.2), if_neg e]
  have F : sg_Af [10, 11, 12, 13, 14, 49] [(9, 8)] σ (mi_uA (ty_mk σ 4 0 0 0) 49 L (mi_sF σ 9 8)) := sg_Af_A (sg_Af_w F0 (by decide) (by decide)) (by decide)
  have e19 : mi_sA (mi_uA (ty_mk σ 4 0 0 0) 49 L (mi_sF σ 9 8)) 19 = mi_sA σ 19 := sg_Af_Ak F (by decide)
  have hE : ∀ i, mi_sE (mi_uA (ty_mk σ 4 0 0 0) 49 L (mi_sF σ 9 8)) 18 i = mi_sE σ 18 i := fun i => by unfold mi_sE; rw [F.1]
  have e8 : mi_sF (mi_uA (ty_mk σ 4 0 0 0) 49 L (mi_sF σ 9 8)) 9 8 = mi_sF (ty_mk σ 4 0 0 0) 9 8 := rfl
  have e11 : mi_sF (mi_uA (ty_mk σ 4 0 0 0) 49 L (mi_sF σ 9 8)) 9 11 = mi_sF (ty_mk σ 4 0 0 0) 9 11 := rfl
  have HT2 : ty_T (ty_mk σ 4 0 0 0) (fun n => Sx n ∨ n = mi_sF σ 9 8) (fun n => if n = mi_sF σ 9 8 then .var (mi_sF σ 9 8).toNat else T n) := by
    refine ⟨HT.1, fun n hn => ?_⟩
    by_cases e : n = mi_sF σ 9 8
    · rw [e]
      exact ⟨by omega, m2, ⟨by rw [m1]; omega, fun q => by rw [m1] at q; omega⟩, fun k q0 q1 => Or.inl (kk k q0 q1), fun _ => ⟨if_pos rfl, kk⟩, fun _ q => absurd m1 q, fun k q0 q1 => by rw [kk k q0 q1, m1]; exact ⟨fun _ => q0, fun _ => rfl⟩⟩
    · obtain ⟨g1, g2, g3, g4, g5, g6, g7⟩ := HT.2 n (hn.resolve_right e)
      exact ⟨g1, g2, g3, fun k q0 q1 => (g4 k q0 q1).imp id Or.inl, g5, g6, g7⟩
  refine ⟨⟨?_, ?_, ⟨?_, (F.2.2 2 0 (by decide)).trans c4, (F.2.2 48 9 (by decide)).trans c5, by rw [F.2.2 3 7 (by decide)]; exact c6⟩, fun L' l0 l1 => ?_, fun L' L2 l0 l1 l2 l3 hn he => ?_⟩, sg_Af_w F (by decide) (by decide), ⟨?_, fun n q0 q1 => ?_, ?_⟩, fun L' l0 l1 hn => ?_⟩
  · unfold ty_T ty_K' ty_k at HT2 ⊢
    rw [a10, a11, a12, e8]
    exact HT2
  · have Z := ty_mk_Z (g := 4) (a := 0) (b := 0) (c := 0) c2 hu0 (by omega) (by omega) (by omega)
    unfold ty_Z ty_k at Z ⊢
    rw [a10, a11, a13, e8, e11]
    exact Z
  · unfold kb at c3 ⊢
    rw [F.2.2 17 12 (by decide), hE, hE, hE, e19]
    exact c3
  · rw [e49, a10]
    by_cases e : L' = L
    · rw [if_pos e]
      exact Or.inr ⟨Or.inr rfl, m1⟩
    · rw [if_neg e]
      rcases c7 L' l0 l1 with q | ⟨q1, q2⟩
      · exact Or.inl q
      · have := c1.2 _ q1
        exact Or.inr ⟨Or.inl q1, by rw [(X.2.1 _ this.1.1 this.1.2).1]; exact q2⟩
  · rw [e49, e49] at he
    rw [e49] at hn
    have lt : ∀ q, 0 ≤ q → q < 6 → mi_sA σ 49 q ≠ mi_sF σ 9 8 := fun q q0 q1 w => by
      rcases c7 q q0 q1 with v | ⟨v, -⟩
      · omega
      · have := (c1.2 _ v).1
        omega
    by_cases e : L' = L
    · by_cases e' : L2 = L
      · rw [e, e']
      · rw [if_pos e, if_neg e'] at he
        exact absurd he.symm (lt L2 l2 l3)
    · by_cases e' : L2 = L
      · rw [if_neg e, if_pos e'] at he
        exact absurd he (lt L' l0 l1)
      · rw [if_neg e] at hn
        rw [if_neg e, if_neg e'] at he
        exact c8 L' L2 l0 l1 l2 l3 hn he
  · rw [e8]; exact X.1
  · rw [a10, a12]
    refine ⟨(X.2.1 n q0 q1).1, (X.2.1 n q0 q1).2.1, fun k k0 k1 => ?_⟩
    have := (X.2.1 n q0 q1).2.2 k k0 k1
    unfold ty_k at this ⊢
    rw [a11]
    exact this
  · rw [a12]; exact X.2.2
  · rw [e49, if_neg (fun e => hn (by rw [e]; exact hz))]
