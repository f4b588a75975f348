/-! ===== fits (printed by wip/gen/p_fits.py) ===== -/
/-- inside fits -/
def ft_J (Sx : Int → Prop) (T : Int → tr) (a b : Int) (σ0 σ : mi_Sg) (nd c w : Int) : Prop := sg_Af [12, 15] [] σ0 σ ∧ ft_I Sx T (mi_sA σ0 10) (ty_K' σ0) a b nd (mi_sA σ 12) (mi_sA σ 15) c w ∧ (∀ n, 0 < n → n < mi_sF σ0 9 8 → mi_sA σ 12 n = mi_sA σ 12 (mi_sA σ0 12 n)) ∧ (∀ n, 0 < n → n < mi_sF σ0 9 8 → ¬ Sx (mi_sA σ0 12 n) → mi_sA σ 12 n = mi_sA σ0 12 n)
section FJ
variable {Sx : Int → Prop} {T : Int → tr} {a b : Int} {σ0 σ σ1 : mi_Sg} {nd c w x y : Int}
theorem ft_S0 (H : ty_T σ0 Sx T) : ∀ n, Sx n → 0 < n := fun n hn => (H.2 n hn).1.1
/-- a link inside S -/
theorem ft_J_ln {od' : Int → Int} {σ1 : mi_Sg} {w' : Int} (H : ty_T σ0 Sx T) (J : ft_J Sx T a b σ0 σ nd c w) (hx : Sx x) (F1 : sg_Af [12, 15] [] σ σ1) (e12 : ∀ i, mi_sA σ1 12 i = if mi_sA σ 12 i = x then y else mi_sA σ 12 i) (I : ft_I Sx T (mi_sA σ0 10) (ty_K' σ0) a b nd (mi_sA σ1 12) (mi_sA σ1 15) c w') : ft_J Sx T a b σ0 σ1 nd c w' := by
  obtain ⟨F, I0, j3, j4⟩ := J
  refine ⟨sg_Af_tr F F1, I, fun n h0 h1 => ?_, fun n h0 h1 hn => ?_⟩
  · rw [e12, e12, j3 n h0 h1]
  · rw [e12, j4 n h0 h1 hn, if_neg (fun q => hn (by rw [q]; exact hx))]
/-- what may be linked to what -/
theorem ft_lk (H : ty_T σ0 Sx T) (hlo : ∀ n, Sx n → mi_sA σ0 10 n = 3 ∨ 5 ≤ mi_sA σ0 10 n → mi_sF σ0 9 9 ≤ n) (hf : 13 ≤ mi_sF σ0 9 9) (F : sg_Af [12, 15] [] σ0 σ) (hx : Sx x) (hy : Sx y) (rx : mi_sA σ 12 x = x) (ry : mi_sA σ 12 y = y) (hne : x ≠ y) (ht : mi_sA σ0 10 x = 3 ∨ 5 ≤ mi_sA σ0 10 x) : ty_lk σ x y := by
  have e8 := F.2.2 9 8 (by decide)
  have e9 := F.2.2 9 9 (by decide)
  have h1 := (H.2 x hx).1
  have h2 := (H.2 y hy).1
  have h3 := hlo x hx ht
  exact ⟨by omega, rx, by omega, ry, hne, by omega, by omega⟩
theorem ft_join (H : ty_T σ0 Sx T) (J : ft_J Sx T a b σ0 σ nd c w) {p q : Int} (hp : p = 0 ∨ Sx p) (hq : q = 0 ∨ Sx q) (hpq : p = 0 ↔ q = 0) (he : ∀ θ, fx (mi_sA σ0 10) θ → sb θ (T a) = sb θ (T b) → sb θ (T p) = sb θ (T q)) {r : Int} (P : jn_P σ (mi_sA σ 12 p) (mi_sA σ 12 q) w r σ1) :
    (r = -1 ∧ sg_Af [12, 15] [] σ σ1 ∧ ∀ θ, fx (mi_sA σ0 10) θ → sb θ (T a) ≠ sb θ (T b)) ∨ (0 ≤ r ∧ ft_J Sx T a b σ0 σ1 nd c r ∧ mi_sA σ1 12 p = mi_sA σ1 12 q ∧ (∀ n m, mi_sA σ 12 n = mi_sA σ 12 m → mi_sA σ1 12 n = mi_sA σ1 12 m) ∧ sg_Af [12, 15] [] σ σ1) := by
  have J' := J
  obtain ⟨F, I, j3, j4⟩ := J'
  have I' := I
  obtain ⟨iA, iB, iC, iD, iE, ⟨iF, -⟩, iG, iH⟩ := I'
  have et : mi_sA σ 10 = mi_sA σ0 10 := sg_Af_Ak F (by decide)
  unfold jn_P at P
  rw [et] at P
  rcases P with ⟨e1, e2, e3⟩ | P
  · obtain rfl := e2.symm
    exact Or.inr ⟨by omega, by rw [e1]; exact J, e3, fun n m h => h, sg_Af_rf⟩
  · have hne : mi_sA σ 12 p ≠ mi_sA σ 12 q := by rcases P with ⟨e, -⟩ | ⟨e, -⟩ | ⟨e, -⟩ | ⟨e, -⟩ <;> exact e
    have hp0 : p ≠ 0 := fun e => hne (by rw [e, hpq.mp e])
    have hq0 : q ≠ 0 := fun e => hp0 (hpq.mpr e)
    have hSp := hp.resolve_left hp0
    have hSq := hq.resolve_left hq0
    obtain ⟨sx, rx⟩ := iA p hSp
    obtain ⟨sy, ry⟩ := iA q hSq
    have he' : ∀ θ, fx (mi_sA σ0 10) θ → sb θ (T a) = sb θ (T b) → sb θ (T (mi_sA σ 12 p)) = sb θ (T (mi_sA σ 12 q)) := fun θ h1 h2 => by
      rw [iB θ h1 h2 p hSp, iB θ h1 h2 q hSq]
      exact he θ h1 h2
    rcases P with ⟨-, e1, e2, e3⟩ | ⟨-, e1, e2, e2', e3⟩ | ⟨-, e1, e2, e3, e4, e5⟩ | ⟨-, e1, e2, e3, e4, e5⟩
    · obtain rfl := e3.symm
      have r12 : ∀ i, mi_sA (ty_ln σ (mi_sA σ 12 p) (mi_sA σ 12 q)) 12 i = if mi_sA σ 12 i = mi_sA σ 12 p then mi_sA σ 12 q else mi_sA σ 12 i := fun i => ty_ln_12
      have r15 : mi_sA (ty_ln σ (mi_sA σ 12 p) (mi_sA σ 12 q)) 15 = mi_sA σ 15 := funext (fun i => ty_ln_A (by decide) i)
      refine Or.inr ⟨by omega, ft_J_ln (od' := mi_sA σ 15) H J sx ty_ln_F r12 ?_, ?_, fun n m h => by rw [r12, r12, h], ty_ln_F⟩
      · rw [r15, e1]
        exact ft_U I (ft_S0 H) sx sy rx ry hne e2 he' r12
      · rw [r12, r12, if_pos rfl, if_neg (fun q => hne q.symm)]
    · obtain rfl := e3.symm
      have r12 : ∀ i, mi_sA (ty_ln σ (mi_sA σ 12 q) (mi_sA σ 12 p)) 12 i = if mi_sA σ 12 i = mi_sA σ 12 q then mi_sA σ 12 p else mi_sA σ 12 i := fun i => ty_ln_12
      have r15 : mi_sA (ty_ln σ (mi_sA σ 12 q) (mi_sA σ 12 p)) 15 = mi_sA σ 15 := funext (fun i => ty_ln_A (by decide) i)
      refine Or.inr ⟨by omega, ft_J_ln (od' := mi_sA σ 15) H J sy ty_ln_F r12 ?_, ?_, fun n m h => by rw [r12, r12, h], ty_ln_F⟩
      · rw [r15, e1]
        exact ft_U I (ft_S0 H) sy sx ry rx (Ne.symm hne) e2' (fun θ h1 h2 => (he' θ h1 h2).symm) r12
      · rw [r12, r12, if_pos rfl, if_neg hne]
    · obtain rfl := e2.symm
      refine Or.inl ⟨e1, sg_Af_rf, fun θ h1 h2 => ?_⟩
      exact ft_clash H sx sy hne e3 e4 e5 h1 (he' θ h1 h2)
    · obtain rfl := e5.symm
      have F1 : sg_Af [12, 15] [] σ (mi_uA (ty_ln σ (max (mi_sA σ 12 p) (mi_sA σ 12 q)) (min (mi_sA σ 12 p) (mi_sA σ 12 q))) 15 w (max (mi_sA σ 12 p) (mi_sA σ 12 q))) := sg_Af_A ty_ln_F (by decide)
      have r12 : ∀ i, mi_sA (mi_uA (ty_ln σ (max (mi_sA σ 12 p) (mi_sA σ 12 q)) (min (mi_sA σ 12 p) (mi_sA σ 12 q))) 15 w (max (mi_sA σ 12 p) (mi_sA σ 12 q))) 12 i = if mi_sA σ 12 i = max (mi_sA σ 12 p) (mi_sA σ 12 q) then min (mi_sA σ 12 p) (mi_sA σ 12 q) else mi_sA σ 12 i := fun i => by
        rw [mi_AA, if_neg (fun e => by omega)]
        exact ty_ln_12
      have r15 : mi_sA (mi_uA (ty_ln σ (max (mi_sA σ 12 p) (mi_sA σ 12 q)) (min (mi_sA σ 12 p) (mi_sA σ 12 q))) 15 w (max (mi_sA σ 12 p) (mi_sA σ 12 q))) 15 w = max (mi_sA σ 12 p) (mi_sA σ 12 q) := by rw [mi_AA, if_pos ⟨rfl, rfl⟩]
      have r15o : ∀ i, i ≠ w → mi_sA (mi_uA (ty_ln σ (max (mi_sA σ 12 p) (mi_sA σ 12 q)) (min (mi_sA σ 12 p) (mi_sA σ 12 q))) 15 w (max (mi_sA σ 12 p) (mi_sA σ 12 q))) 15 i = mi_sA σ 15 i := fun i hi => by
        rw [mi_AA, if_neg (fun e => hi e.2)]
        exact ty_ln_A (by decide) i
      rcases Int.lt_or_gt_of_ne hne with hlt | hlt
      · have em : max (mi_sA σ 12 p) (mi_sA σ 12 q) = mi_sA σ 12 q := by omega
        have en : min (mi_sA σ 12 p) (mi_sA σ 12 q) = mi_sA σ 12 p := by omega
        rw [em, en] at r12 r15 r15o F1 ⊢
        refine Or.inr ⟨by omega, ft_J_ln (od' := mi_sA σ 15) H J sy F1 r12 ?_, ?_, fun n m h => by rw [r12, r12, h], F1⟩
        · rw [e1]
          exact ft_N I (ft_S0 H) sy sx ry rx hlt (by omega) (by omega) e4 (fun θ h1 h2 => (he' θ h1 h2).symm) r12 r15 r15o
        · rw [r12, r12, if_pos rfl, if_neg hne]
      · have em : max (mi_sA σ 12 p) (mi_sA σ 12 q) = mi_sA σ 12 p := by omega
        have en : min (mi_sA σ 12 p) (mi_sA σ 12 q) = mi_sA σ 12 q := by omega
        rw [em, en] at r12 r15 r15o F1 ⊢
        refine Or.inr ⟨by omega, ft_J_ln (od' := mi_sA σ 15) H J sx F1 r12 ?_, ?_, fun n m h => by rw [r12, r12, h], F1⟩
        · rw [e1]
          exact ft_N I (ft_S0 H) sx sy rx ry hlt e2 e3 e4.symm he' r12 r15 r15o
        · rw [r12, r12, if_pos rfl, if_neg (fun q => hne q.symm)]
/-- the sides of join's links -/
theorem ft_sides (H : ty_T σ0 Sx T) (hlo : ∀ n, Sx n → mi_sA σ0 10 n = 3 ∨ 5 ≤ mi_sA σ0 10 n → mi_sF σ0 9 9 ≤ n) (hf : 13 ≤ mi_sF σ0 9 9) (J : ft_J Sx T a b σ0 σ nd c w) (ht0 : mi_sA σ0 10 0 = 0) {p q : Int} (hp : p = 0 ∨ Sx p) (hq : q = 0 ∨ Sx q) (hpq : p = 0 ↔ q = 0) :
    (0 ≤ mi_sA σ 10 (mi_sA σ 12 p) ∧ mi_sA σ 10 (mi_sA σ 12 p) ≤ 100) ∧ (mi_sA σ 12 p ≠ mi_sA σ 12 q → mi_sA σ 10 (mi_sA σ 12 p) = 3 → ty_lk σ (mi_sA σ 12 p) (mi_sA σ 12 q)) ∧ (mi_sA σ 12 p ≠ mi_sA σ 12 q → mi_sA σ 10 (mi_sA σ 12 p) ≠ 3 → mi_sA σ 10 (mi_sA σ 12 p) ≠ 4 → mi_sA σ 10 (mi_sA σ 12 p) = mi_sA σ 10 (mi_sA σ 12 q) → ty_lk σ (max (mi_sA σ 12 p) (mi_sA σ 12 q)) (min (mi_sA σ 12 p) (mi_sA σ 12 q))) := by
  obtain ⟨F, I, j3, j4⟩ := J
  obtain ⟨iA, iB, iC, iD, iE, ⟨iF, -⟩, iG, iH⟩ := I
  have et : mi_sA σ 10 = mi_sA σ0 10 := sg_Af_Ak F (by decide)
  rw [et]
  by_cases hp0 : p = 0
  · rw [hp0, hpq.mp hp0, iG, ht0]
    exact ⟨by omega, fun e => absurd rfl e, fun e => absurd rfl e⟩
  · have hSp := hp.resolve_left hp0
    have hSq := hq.resolve_left (fun e => hp0 (hpq.mpr e))
    obtain ⟨sx, rx⟩ := iA p hSp
    obtain ⟨sy, ry⟩ := iA q hSq
    have g3 := (H.2 _ sx).2.2.1
    have g3' := (H.2 _ sy).2.2.1
    refine ⟨by omega, fun hne ht => ft_lk H hlo hf F sx sy rx ry hne (Or.inl ht), fun hne h3 h4 hxy => ?_⟩
    have h5 : 5 ≤ mi_sA σ0 10 (mi_sA σ 12 p) := by
      refine Decidable.byContradiction (fun q => ?_)
      have q1 := g3.2 (by omega)
      have q2 := g3'.2 (by omega)
      omega
    rcases Int.lt_or_gt_of_ne hne with hlt | hlt
    · have em : max (mi_sA σ 12 p) (mi_sA σ 12 q) = mi_sA σ 12 q := by omega
      have en : min (mi_sA σ 12 p) (mi_sA σ 12 q) = mi_sA σ 12 p := by omega
      rw [em, en]
      exact ft_lk H hlo hf F sy sx ry rx (Ne.symm hne) (Or.inr (by omega))
    · have em : max (mi_sA σ 12 p) (mi_sA σ 12 q) = mi_sA σ 12 p := by omega
      have en : min (mi_sA σ 12 p) (mi_sA σ 12 q) = mi_sA σ 12 q := by omega
      rw [em, en]
      exact ft_lk H hlo hf F sx sy rx ry hne (Or.inr h5)
end FJ
