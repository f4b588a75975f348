/-! ===== fits (printed by wip/gen/p_fits.py) ===== -/
/-- inside fits -/
def ft_J (Sx : Int → Prop) (T : Int → tr) (a b : Int) (σ0 σ : mi_Sg) (nd c w : Int) : Prop := sg_Af [12, 15] [] σ0 σ ∧ ft_I Sx T (mi_sA σ0 10) (ty_K' σ0) a b nd (mi_sA σ 12) (mi_sA σ 15) c w ∧ (∀ n, 0 < n → n < mi_sF σ0 9 8 → mi_sA σ 12 n = mi_sA σ 12 (mi_sA σ0 12 n)) ∧ (∀ n, 0 < n → n < mi_sF σ0 9 8 → ¬ Sx (mi_sA σ0 12 n) → mi_sA σ 12 n = mi_sA σ0 12 n)
section FJ
variable {Sx : Int → Prop} {T : Int → tr} {a b : Int} {σ0 σ σ1 : mi_Sg} {nd c w x y : Int}
theorem ft_S0 (H : ty_T σ0 Sx T) : ∀ n, Sx n → 0 < n := fun n hn => (H.2 n hn).1.1
/-- a link inside S -/
theorem ft_J_ln {od' : Int → Int} {σ1 : mi_Sg} {w' : Int} (H : ty_T σ0 Sx T) (J : ft_J Sx T a b σ0 σ nd c w) (hx : Sx x) (F1 : sg_Af [12, 15] [] σ σ1) (e12 : ∀ i, mi_sA σ1 12 i = if mi_sA σ 12 i = x then y else mi_sA σ 12 i) (I : ft_I Sx T (mi_sA σ0 10) (ty_K' σ0) a b nd (mi_sA σ1 12) (mi_sA σ1 15) c w') : ft_J Sx T a b σ0 σ1 nd c w' := by
  obtain ⟨F, I0, j3, j4⟩ := J
  refine ⟨sg_Af_tr F F1, I, fun n h0 h1 => ?_, fun n h0 h1 hn => ?_⟩
  · rw [e12, e12, j3 n h0 h1]
  · rw [e12, j4 n h0 h1 hn, if_neg (fun q => hn (by rw [q]; exact hx))]
/-- what may be linked to what -/
theorem ft_lk (H : ty_T σ0 Sx T) (hlo : ∀ n, Sx n → mi_sA σ0 10 n = 3 ∨ 5 ≤ mi_sA σ0 10 n → mi_sF σ0 9 9 ≤ n) (hf : 13 ≤ mi_sF σ0 9 9) (F : sg_Af [12, 15] [] σ0 σ) (hx : Sx x) (hy : Sx y) (rx : mi_sA σ 12 x = x) (ry : mi_sA σ 12 y = y) (hne : x ≠ y) (ht : mi_sA σ0 10 x = 3 ∨ 5 ≤ mi_sA σ0 10 x) : ty_lk σ x y := by
  have e8 := F.2.2 9 8 (by decide)
  have e9 := F.2.2 9 9 (by decide)
  have h1 := (H.2 x hx).1
  have h2 := (H.2 y hy).1
  have h3 := hlo x hx ht
  exact ⟨by omega, rx, by omega, ry, hne, by omega, by omega⟩
theorem ft_join (H : ty_T σ0 Sx T) (J : ft_J Sx T a b σ0 σ nd c w) {p q : Int} (hp : p = 0 ∨ Sx p) (hq : q = 0 ∨ Sx q) (hpq : p = 0 ↔ q = 0) (he : ∀ θ, fx (mi_sA σ0 10) θ → sb θ (T a) = sb θ (T b) → sb θ (T p) = sb θ (T q)) {r : Int} (P : jn_P σ (mi_sA σ 12 p) (mi_sA σ 12 q) w r σ1) :
    (r = -1 ∧ σ1 = σ ∧ ∀ θ, fx (mi_sA σ0 10) θ → sb θ (T a) ≠ sb θ (T b)) ∨ (0 ≤ r ∧ ft_J Sx T a b σ0 σ1 nd c r ∧ mi_sA σ1 12 p = mi_sA σ1 12 q ∧ (∀ n m, mi_sA σ 12 n = mi_sA σ 12 m → mi_sA σ1 12 n = mi_sA σ1 12 m) ∧ sg_Af [12, 15] [] σ σ1) := by
  have J' := J
  obtain ⟨F, I, j3, j4⟩ := J'
  have I' := I
  obtain ⟨iA, iB, iC, iD, iE, ⟨iF, -⟩, iG, iH⟩ := I'
  have et : mi_sA σ 10 = mi_sA σ0 10 := sg_Af_Ak F (by decide)
  unfold jn_P at P
  rw [et] at P
  rcases P with ⟨e1, e2, e3⟩ | P
  · obtain rfl := e2.symm
    exact Or.inr ⟨by omega, by rw [e1]; exact J, e3, fun n m h => h, sg_Af_rf⟩
  · have hne : mi_sA σ 12 p ≠ mi_sA σ 12 q := by rcases P with ⟨e, -⟩ | ⟨e, -⟩ | ⟨e, -⟩ | ⟨e, -⟩ <;> exact e
    have hp0 : p ≠ 0 := fun e => hne (by rw [e, hpq.mp e])
    have hq0 : q ≠ 0 := fun e => hp0 (hpq.mpr e)
    have hSp := hp.resolve_left hp0
    have hSq := hq.resolve_left hq0
    obtain ⟨sx, rx⟩ := iA p hSp
    obtain ⟨sy, ry⟩ := iA q hSq
    have he' : ∀ θ, fx (mi_sA σ0 10) θ → sb θ (T a) = sb θ (T b) → sb θ (T (mi_sA σ 12 p)) = sb θ (T (mi_sA σ 12 q)) := fun θ h1 h2 => by
      rw [iB θ h1 h2 p hSp, iB θ h1 h2 q hSq]
      exact he θ h1 h2
    rcases P with ⟨-, e1, e2, e3⟩ | ⟨-, e1, e2, e2', e3⟩ | ⟨-, e1, e2, e3, e4, e5⟩ | ⟨-, e1, e2, e3, e4, e5⟩
    · obtain rfl := e3.symm
      have r12 : ∀ i, mi_sA (ty_ln σ (mi_sA σ 12 p) (mi_sA σ 12 q)) 12 i = if mi_sA σ 12 i = mi_sA σ 12 p then mi_sA σ 12 q else mi_sA σ 12 i := fun i => ty_ln_12
      have r15 : mi_sA (ty_ln σ (mi_sA σ 12 p) (mi_sA σ 12 q)) 15 = mi_sA σ 15 := funext (fun i => ty_ln_A (by decide) i)
      refine Or.inr ⟨by omega, ft_J_ln (od' := mi_sA σ 15) H J sx ty_ln_F r12 ?_, ?_, fun n m h => by rw [r12, r12, h], ty_ln_F⟩
      · rw [r15, e1]
        exact ft_U I (ft_S0 H) sx sy rx ry hne e2 he' r12
      · rw [r12, r12, if_pos rfl, if_neg (fun q => hne q.symm)]
    · obtain rfl := e3.symm
      have r12 : ∀ i, mi_sA (ty_ln σ (mi_sA σ 12 q) (mi_sA σ 12 p)) 12 i = if mi_sA σ 12 i = mi_sA σ 12 q then mi_sA σ 12 p else mi_sA σ 12 i := fun i => ty_ln_12
      have r15 : mi_sA (ty_ln σ (mi_sA σ 12 q) (mi_sA σ 12 p)) 15 = mi_sA σ 15 := funext (fun i => ty_ln_A (by decide) i)
      refine Or.inr ⟨by omega, ft_J_ln (od' := mi_sA σ 15) H J sy ty_ln_F r12 ?_, ?_, fun n m h => by rw [r12, r12, h], ty_ln_F⟩
      · rw [r15, e1]
        exact ft_U I (ft_S0 H) sy sx ry rx (Ne.symm hne) e2' (fun θ h1 h2 => (he' θ h1 h2).symm) r12
      · rw [r12, r12, if_pos rfl, if_neg hne]
    · obtain rfl := e2.symm
      refine Or.inl ⟨e1, rfl, fun θ h1 h2 => ?_⟩
      exact ft_clash H sx sy hne e3 e4 e5 h1 (he' θ h1 h2)
    · obtain rfl := e5.symm
      have F1 : sg_Af [12, 15] [] σ (mi_uA (ty_ln σ (max (mi_sA σ 12 p) (mi_sA σ 12 q)) (min (mi_sA σ 12 p) (mi_sA σ 12 q))) 15 w (max (mi_sA σ 12 p) (mi_sA σ 12 q))) := sg_Af_A ty_ln_F (by decide)
      have r12 : ∀ i, mi_sA (mi_uA (ty_ln σ (max (mi_sA σ 12 p) (mi_sA σ 12 q)) (min (mi_sA σ 12 p) (mi_sA σ 12 q))) 15 w (max (mi_sA σ 12 p) (mi_sA σ 12 q))) 12 i = if mi_sA σ 12 i = max (mi_sA σ 12 p) (mi_sA σ 12 q) then min (mi_sA σ 12 p) (mi_sA σ 12 q) else mi_sA σ 12 i := fun i => by
        rw [mi_AA, if_neg (fun e => by omega)]
        exact ty_ln_12
      have r15 : mi_sA (mi_uA (ty_ln σ (max (mi_sA σ 12 p) (mi_sA σ 12 q)) (min (mi_sA σ 12 p) (mi_sA σ 12 q))) 15 w (max (mi_sA σ 12 p) (mi_sA σ 12 q))) 15 w = max (mi_sA σ 12 p) (mi_sA σ 12 q) := by rw [mi_AA, if_pos ⟨rfl, rfl⟩]
      have r15o : ∀ i, i ≠ w → mi_sA (mi_uA (ty_ln σ (max (mi_sA σ 12 p) (mi_sA σ 12 q)) (min (mi_sA σ 12 p) (mi_sA σ 12 q))) 15 w (max (mi_sA σ 12 p) (mi_sA σ 12 q))) 15 i = mi_sA σ 15 i := fun i hi => by
        rw [mi_AA, if_neg (fun e => hi e.2)]
        exact ty_ln_A (by decide) i
      rcases Int.lt_or_gt_of_ne hne with hlt | hlt
      · have em : max (mi_sA σ 12 p) (mi_sA σ 12 q) = mi_sA σ 12 q := by omega
        have en : min (mi_sA σ 12 p) (mi_sA σ 12 q) = mi_sA σ 12 p := by omega
        rw [em, en] at r12 r15 r15o F1 ⊢
        refine Or.inr ⟨by omega, ft_J_ln (od' := mi_sA σ 15) H J sy F1 r12 ?_, ?_, fun n m h => by rw [r12, r12, h], F1⟩
        · rw [e1]
          exact ft_N I (ft_S0 H) sy sx ry rx hlt (by omega) (by omega) e4 (fun θ h1 h2 => (he' θ h1 h2).symm) r12 r15 r15o
        · rw [r12, r12, if_pos rfl, if_neg hne]
      · have em : max (mi_sA σ 12 p) (mi_sA σ 12 q) = mi_sA σ 12 p := by omega
        have en : min (mi_sA σ 12 p) (mi_sA σ 12 q) = mi_sA σ 12 q := by omega
        rw [em, en] at r12 r15 r15o F1 ⊢
        refine Or.inr ⟨by omega, ft_J_ln (od' := mi_sA σ 15) H J sx F1 r12 ?_, ?_, fun n m h => by rw [r12, r12, h], F1⟩
        · rw [e1]
          exact ft_N I (ft_S0 H) sx sy rx ry hlt e2 e3 e4.symm he' r12 r15 r15o
        · rw [r12, r12, if_pos rfl, if_neg (fun q => hne q.symm)]
/-- the sides of join's links -/
theorem ft_sides (H : ty_T σ0 Sx T) (hlo : ∀ n, Sx n → mi_sA σ0 10 n = 3 ∨ 5 ≤ mi_sA σ0 10 n → mi_sF σ0 9 9 ≤ n) (hf : 13 ≤ mi_sF σ0 9 9) (J : ft_J Sx T a b σ0 σ nd c w) (ht0 : mi_sA σ0 10 0 = 0) {p q : Int} (hp : p = 0 ∨ Sx p) (hq : q = 0 ∨ Sx q) (hpq : p = 0 ↔ q = 0) :
    (0 ≤ mi_sA σ 10 (mi_sA σ 12 p) ∧ mi_sA σ 10 (mi_sA σ 12 p) ≤ 100) ∧ (mi_sA σ 12 p ≠ mi_sA σ 12 q → mi_sA σ 10 (mi_sA σ 12 p) = 3 → ty_lk σ (mi_sA σ 12 p) (mi_sA σ 12 q)) ∧ (mi_sA σ 12 p ≠ mi_sA σ 12 q → mi_sA σ 10 (mi_sA σ 12 p) ≠ 3 → mi_sA σ 10 (mi_sA σ 12 p) ≠ 4 → mi_sA σ 10 (mi_sA σ 12 p) = mi_sA σ 10 (mi_sA σ 12 q) → ty_lk σ (max (mi_sA σ 12 p) (mi_sA σ 12 q)) (min (mi_sA σ 12 p) (mi_sA σ 12 q))) := by
  obtain ⟨F, I, j3, j4⟩ := J
  obtain ⟨iA, iB, iC, iD, iE, ⟨iF, -⟩, iG, iH⟩ := I
  have et : mi_sA σ 10 = mi_sA σ0 10 := sg_Af_Ak F (by decide)
  rw [et]
  by_cases hp0 : p = 0
  · rw [hp0, hpq.mp hp0, iG, ht0]
    exact ⟨by omega, fun e => absurd rfl e, fun e => absurd rfl e⟩
  · have hSp := hp.resolve_left hp0
    have hSq := hq.resolve_left (fun e => hp0 (hpq.mpr e))
    obtain ⟨sx, rx⟩ := iA p hSp
    obtain ⟨sy, ry⟩ := iA q hSq
    have g3 := (H.2 _ sx).2.2.1
    have g3' := (H.2 _ sy).2.2.1
    refine ⟨by omega, fun hne ht => ft_lk H hlo hf F sx sy rx ry hne (Or.inl ht), fun hne h3 h4 hxy => ?_⟩
    have h5 : 5 ≤ mi_sA σ0 10 (mi_sA σ 12 p) := by
      refine Decidable.byContradiction (fun q => ?_)
      have q1 := g3.2 (by omega)
      have q2 := g3'.2 (by omega)
      omega
    rcases Int.lt_or_gt_of_ne hne with hlt | hlt
    · have em : max (mi_sA σ 12 p) (mi_sA σ 12 q) = mi_sA σ 12 q := by omega
      have en : min (mi_sA σ 12 p) (mi_sA σ 12 q) = mi_sA σ 12 p := by omega
      rw [em, en]
      exact ft_lk H hlo hf F sy sx ry rx (Ne.symm hne) (Or.inr (by omega))
    · have em : max (mi_sA σ 12 p) (mi_sA σ 12 q) = mi_sA σ 12 p := by omega
      have en : min (mi_sA σ 12 p) (mi_sA σ 12 q) = mi_sA σ 12 q := by omega
      rw [em, en]
      exact ft_lk H hlo hf F sx sy rx ry hne (Or.inr h5)
end FJ
section FQ
variable {Sx : Int → Prop} {T : Int → tr} {a b : Int} {σ0 σ σf : mi_Sg}
/-- what fits leaves: a and b are ends of ways in σ0 -/
def ft_Q (Sx : Int → Prop) (T : Int → tr) (a b : Int) (σ0 : mi_Sg) (x : Int) (σ : mi_Sg) : Prop := sg_Af [12, 13, 14, 15, 16] [(9, 10), (9, 11)] σ0 σ ∧ (mi_sF σ0 9 11 ≤ mi_sF σ 9 11 ∧ mi_sF σ 9 11 ≤ mi_sF σ0 9 11 + 1) ∧ ty_Z σ ∧ (∀ n, 0 < n → n < mi_sF σ0 9 8 → ¬ Sx (mi_sA σ0 12 n) → mi_sA σ 12 n = mi_sA σ0 12 n) ∧ (∀ n, 0 < n → n < mi_sF σ0 9 8 → mi_sA σ 12 n = mi_sA σ 12 (mi_sA σ0 12 n)) ∧ (∀ n, Sx n → mi_sA σ0 10 n ≤ 2 ∨ mi_sA σ0 10 n = 4 → mi_sA σ 12 n = n) ∧
  ((x = 0 ∧ ∀ θ, fx (mi_sA σ0 10) θ → sb θ (T a) ≠ sb θ (T b)) ∨ (x = 1 ∧ ∃ (Sf : Int → Prop) (T1 : Int → tr) (θ1 : Nat → tr), ty_T σ Sf T1 ∧ (∀ n, Sf n → Sx n) ∧ Sf (mi_sA σ 12 a) ∧ mi_sA σ 12 a = mi_sA σ 12 b ∧ T1 (mi_sA σ 12 a) = sb θ1 (T a) ∧ T1 (mi_sA σ 12 a) = sb θ1 (T b) ∧ fx (mi_sA σ0 10) θ1 ∧ (∀ θ, fx (mi_sA σ0 10) θ → sb θ (T a) = sb θ (T b) → ∀ v : Nat, sb θ (θ1 v) = θ v) ∧ (∀ n, Sx n → Sx (mi_sA σ 12 n) ∧ sb θ1 (T (mi_sA σ 12 n)) = sb θ1 (T n)) ∧ (∀ n, Sx n → mi_sA σ0 10 n ≠ 3 → mi_sA σ0 10 (mi_sA σ 12 n) = mi_sA σ0 10 n ∧ mi_sA σ 12 n ≤ n) ∧ ∀ n, Sx n → mi_sA σ0 10 n = 3 → mi_sA σ 12 n = n → θ1 n.toNat = .var n.toNat))
theorem ft_Z {nd c w : Int} (J : ft_J Sx T a b σ0 σ nd c w) (Z : ty_Z σ0) : ty_Z σ := by
  obtain ⟨z1, z2, z3, z4, z5⟩ := Z
  have e8 := J.1.2.2 9 8 (by decide)
  have e11 := J.1.2.2 9 11 (by decide)
  have e11' := sg_Af_Ak J.1 (k := 11) (by decide)
  have e13 := sg_Af_Ak J.1 (k := 13) (by decide)
  have e10 := sg_Af_Ak J.1 (k := 10) (by decide)
  unfold ty_Z ty_k
  rw [e8, e11, e11', e13, e10]
  exact ⟨z1, z2, z3, z4, z5⟩
theorem ft_eK {nd c w : Int} (J : ft_J Sx T a b σ0 σ nd c w) (Z : ty_Z σ0) (h00 : mi_sA σ0 12 0 = 0) {n k : Int} (h0 : 0 < n) (h1 : n < mi_sF σ0 9 8) (k0 : 0 ≤ k) (k1 : k < 3) : ty_K' σ n k = mi_sA σ 12 (ty_K' σ0 n k) := by
  have e11' := sg_Af_Ak J.1 (k := 11) (by decide)
  have hk := Z.2.1 n k h0 h1 k0 k1
  have G0 : mi_sA σ 12 0 = 0 := J.2.1.2.2.2.2.2.2.1
  have e : ty_k σ n k = ty_k σ0 n k := by unfold ty_k; rw [e11']
  unfold ty_K'
  rw [e]
  by_cases q : ty_k σ0 n k = 0
  · rw [q, h00]
  · exact J.2.2.1 _ (by omega) hk.2
theorem ft_stay {nd c w : Int} (H : ty_T σ0 Sx T) (J : ft_J Sx T a b σ0 σ nd c w) : ∀ n, Sx n → mi_sA σ0 10 n ≤ 2 ∨ mi_sA σ0 10 n = 4 → mi_sA σ 12 n = n := by
  obtain ⟨F, ⟨iA, iB, iC, iD, iE, iF, iG, iH⟩, j3, j4⟩ := J
  intro n hn h
  rcases h with h | h
  · have q := iC n hn (by omega)
    have g := (H.2 n hn).2.2.1.2 h
    have g' := (H.2 _ (iA n hn).1).2.2.1.2 (by omega)
    omega
  · exact iH n hn h
theorem ft_fin {c nda : Int} (H : ty_T σ0 Sx T) (Z : ty_Z σ0) (hu : 0 < mi_sF σ0 9 8) (h00 : mi_sA σ0 12 0 = 0) (J : ft_J Sx T a b σ0 σ 0 c 0) (hab : mi_sA σ 12 a = mi_sA σ 12 b) (ha : Sx a) (hb : Sx b) (E : ga_E Sx (mi_sA σ 12 a) σ σf) : ft_Q Sx T a b σ0 1 σf := by
  classical
  have E' := E
  have stay := ft_stay H J
  have ZJ := ft_Z J Z
  have J' := J
  obtain ⟨F, I, j3, j4⟩ := J'
  have cong := ft_cong I (ft_S0 H)
  obtain ⟨iA, iB, iC, iD, iE, iF, iG, iH⟩ := I
  obtain ⟨F2, f11, ⟨pos, g0, ⟨b1, b2, b3, b4⟩, hn⟩, hS, hx, hK⟩ := E'
  have e8 : mi_sF σ 9 8 = mi_sF σ0 9 8 := F.2.2 9 8 (by decide)
  have e8f : mi_sF σf 9 8 = mi_sF σ0 9 8 := (F2.2.2 9 8 (by decide)).trans e8
  have e11 : mi_sF σ 9 11 = mi_sF σ0 9 11 := F.2.2 9 11 (by decide)
  have e12 : mi_sA σf 12 = mi_sA σ 12 := sg_Af_Ak F2 (by decide)
  have e10 : mi_sA σf 10 = mi_sA σ0 10 := (sg_Af_Ak F2 (by decide)).trans (sg_Af_Ak F (by decide))
  have eK : ∀ n, Sx n → ∀ k, 0 ≤ k → k < 3 → ty_K' σf n k = mi_sA σ 12 (ty_K' σ0 n k) := fun n hn k k0 k1 => by
    rw [ga_E_K E]
    have := (H.2 n hn).1
    exact ft_eK J Z h00 this.1 this.2 k0 k1
  -- the nodes that are gathered
  have BL : ∀ n, (0 < n ∧ n < mi_sF σf 9 8 ∧ mi_sA σf 13 n = 2 * mi_sF σf 9 11 + 1) → 0 ≤ pos n ∧ ∀ k, 0 ≤ k → k < 3 → ty_K' σf n k = 0 ∨ ((0 < ty_K' σf n k ∧ ty_K' σf n k < mi_sF σf 9 8 ∧ mi_sA σf 13 (ty_K' σf n k) = 2 * mi_sF σf 9 11 + 1) ∧ pos (ty_K' σf n k) < pos n) := fun n hn => by
    obtain ⟨w1, w2, w3, w4⟩ := b2 n hn.1 hn.2.1 hn.2.2
    refine ⟨w1.1, fun k k0 k1 => ?_⟩
    rcases w4 k k0 k1 with e | ⟨q1, q2⟩
    · exact Or.inl e
    · by_cases e : ty_K' σf n k = 0
      · exact Or.inl e
      · have := hK n k hn.1 (by omega) k0 k1
        rw [← ga_E_K E] at this
        exact Or.inr ⟨⟨by omega, by omega, q1⟩, q2⟩
  have st := tr_b_st (tag := mi_sA σ0 10) (K := ty_K' σf) (B := fun n => 0 < n ∧ n < mi_sF σf 9 8 ∧ mi_sA σf 13 n = 2 * mi_sF σf 9 11 + 1) (pos := pos) BL
  have hgu := ga_E_g E (by omega)
  have posu : ∀ n, (0 < n ∧ n < mi_sF σf 9 8 ∧ mi_sA σf 13 n = 2 * mi_sF σf 9 11 + 1) → pos n < mi_sF σ0 9 8 := fun n hn => by
    have := (b2 n hn.1 hn.2.1 hn.2.2).1
    omega
  have T1k : ∀ n, (0 < n ∧ n < mi_sF σf 9 8 ∧ mi_sA σf 13 n = 2 * mi_sF σf 9 11 + 1) → mi_sA σ0 10 n ≠ 3 → mi_sA σ0 10 n ≠ 4 → tr_b (mi_sA σ0 10) (ty_K' σf) ((mi_sF σ0 9 8).toNat + 1) n = tn (mi_sA σ0 10 n) (tr_b (mi_sA σ0 10) (ty_K' σf) ((mi_sF σ0 9 8).toNat + 1) (ty_K' σf n 0)) (tr_b (mi_sA σ0 10) (ty_K' σf) ((mi_sF σ0 9 8).toNat + 1) (ty_K' σf n 1)) (tr_b (mi_sA σ0 10) (ty_K' σf) ((mi_sF σ0 9 8).toNat + 1) (ty_K' σf n 2)) := fun n hn h3 h4 => by
    have kk : ∀ k, 0 ≤ k → k < 3 → tr_b (mi_sA σ0 10) (ty_K' σf) (mi_sF σ0 9 8).toNat (ty_K' σf n k) = tr_b (mi_sA σ0 10) (ty_K' σf) ((mi_sF σ0 9 8).toNat + 1) (ty_K' σf n k) := fun k k0 k1 => by
      refine st _ _ _ ?_
      rcases (BL n hn).2 k k0 k1 with e | ⟨q1, q2⟩
      · exact Or.inl e
      · have := posu _ q1
        exact Or.inr ⟨q1, by omega, by omega⟩
    conv => lhs; unfold tr_b
    rw [if_neg (by omega), if_neg (by omega), kk 0 (by omega) (by omega), kk 1 (by omega) (by omega), kk 2 (by omega) (by omega)]
  have T1v : ∀ n, 0 < n → (mi_sA σ0 10 n = 3 ∨ mi_sA σ0 10 n = 4) → tr_b (mi_sA σ0 10) (ty_K' σf) ((mi_sF σ0 9 8).toNat + 1) n = .var n.toNat := fun n hn h => by
    unfold tr_b
    rw [if_neg (by omega), if_pos h]
  have T10 : tr_b (mi_sA σ0 10) (ty_K' σf) ((mi_sF σ0 9 8).toNat + 1) 0 = .num 0 := by
    unfold tr_b
    rw [if_pos rfl]
  have K0 : ∀ n, Sx n → ∀ k, 0 ≤ k → k < 3 → (ty_K' σf n k = 0 ↔ ty_K' σ0 n k = 0) := fun n hn k k0 k1 => by
    rw [eK n hn k k0 k1]
    refine ⟨fun q => ?_, fun q => by rw [q, iG]⟩
    rcases (H.2 n hn).2.2.2.1 k k0 k1 with e | e
    · exact e
    · have := ft_S0 H _ (iA _ e).1
      omega
  generalize hT1 : tr_b (mi_sA σ0 10) (ty_K' σf) ((mi_sF σ0 9 8).toNat + 1) = T1 at *
  have bl : ∀ n, mi_sA σf 13 n = 2 * mi_sF σf 9 11 + 1 → Sx n → (0 < n ∧ n < mi_sF σf 9 8 ∧ mi_sA σf 13 n = 2 * mi_sF σf 9 11 + 1) := fun n h hn => by
    have := (H.2 n hn).1
    exact ⟨this.1, by omega, h⟩
  have HT1 : ty_T σf (fun n => Sx n ∧ mi_sA σf 13 n = 2 * mi_sF σf 9 11 + 1) T1 := by
    refine ⟨T10, fun n ⟨hn, hb⟩ => ?_⟩
    obtain ⟨g1, g2, g3, g4, g5, g6, g7⟩ := H.2 n hn
    have hB := bl n hb hn
    refine ⟨by omega, (b2 n hB.1 hB.2.1 hb).2.2.1, by rw [e10]; exact g3, fun k k0 k1 => ?_, fun q => ?_, fun q1 q2 => ?_, fun k k0 k1 => ?_⟩
    · rcases (BL n hB).2 k k0 k1 with e | ⟨q1, q2⟩
      · exact Or.inl e
      · refine Or.inr ⟨?_, q1.2.2⟩
        rw [eK n hn k k0 k1] at q1 ⊢
        rcases g4 k k0 k1 with e | e
        · rw [e, iG] at q1
          omega
        · exact (iA _ e).1
    · rw [e10] at q
      exact ⟨T1v n g1.1 q, fun k k0 k1 => (K0 n hn k k0 k1).mpr ((g5 q).2 k k0 k1)⟩
    · rw [e10] at q1 q2 ⊢
      exact T1k n hB q1 q2
    · rw [e10, K0 n hn k k0 k1]
      exact g7 k k0 k1
  -- what is put in the places of variables
  have main : ∀ (m : Nat) (n : Int), (ns (T n)).toNat = m → Sx n → mi_sA σf 13 (mi_sA σ 12 n) = 2 * mi_sF σf 9 11 + 1 → T1 (mi_sA σ 12 n) = sb (fun v => if Sx (v : Int) ∧ (mi_sA σ0 10 (v : Int) = 3 ∨ mi_sA σ0 10 (v : Int) = 4) ∧ mi_sA σf 13 (mi_sA σ 12 (v : Int)) = 2 * mi_sF σf 9 11 + 1 then T1 (mi_sA σ 12 (v : Int)) else .var v) (T n) := by
    intro m
    induction m using Nat.strongRecOn with
    | ind m ih =>
      intro n hm hn hb
      obtain ⟨g1, g2, g3, g4, g5, g6, g7⟩ := H.2 n hn
      by_cases e : mi_sA σ0 10 n = 3 ∨ mi_sA σ0 10 n = 4
      · rw [(g5 e).1]
        have hv : ((n.toNat : Nat) : Int) = n := by omega
        show _ = if _ then _ else _
        rw [hv, if_pos ⟨hn, e, hb⟩]
      · have h3 : mi_sA σ0 10 n ≠ 3 := fun q => e (Or.inl q)
        have h4 : mi_sA σ0 10 n ≠ 4 := fun q => e (Or.inr q)
        obtain ⟨c1, c2⟩ := iC n hn h3
        have hr := (iA n hn).1
        have hB := bl _ hb hr
        have ez := ty_T_z H n hn g1.1 g1.2
        have kk : ∀ k, 0 ≤ k → k < 3 → T1 (ty_K' σf (mi_sA σ 12 n) k) = sb (fun v => if Sx (v : Int) ∧ (mi_sA σ0 10 (v : Int) = 3 ∨ mi_sA σ0 10 (v : Int) = 4) ∧ mi_sA σf 13 (mi_sA σ 12 (v : Int)) = 2 * mi_sF σf 9 11 + 1 then T1 (mi_sA σ 12 (v : Int)) else .var v) (T (ty_K' σ0 n k)) := fun k k0 k1 => by
          have eq : ty_K' σf (mi_sA σ 12 n) k = mi_sA σ 12 (ty_K' σ0 n k) := by
            rw [eK _ hr k k0 k1, cong _ n rfl hn h3 k k0 k1]
          rw [eq]
          by_cases z : ty_K' σ0 n k = 0
          · rw [z, iG, T10, H.1]
            rfl
          · have hk := (g4 k k0 k1).resolve_left z
            have := ez k k0 k1 z
            dsimp only at this
            have n0 := ns_0 (T (ty_K' σ0 n k))
            refine ih _ (by omega) _ rfl hk ?_
            rcases (BL _ hB).2 k k0 k1 with w | ⟨w, -⟩
            · rw [eq] at w
              have := ft_S0 H _ (iA _ hk).1
              omega
            · rw [eq] at w
              exact w.2.2
        rw [T1k _ hB (by omega) (by omega), g6 h3 h4, sb_tn, c1, kk 0 (by omega) (by omega), kk 1 (by omega) (by omega), kk 2 (by omega) (by omega)]
  have hbla : mi_sA σf 13 (mi_sA σ 12 a) = 2 * mi_sF σf 9 11 + 1 := by
    rcases hx with q | q
    · have := ft_S0 H _ (iA a ha).1
      omega
    · exact q
  have hfx1 : fx (mi_sA σ0 10) (fun v : Nat => if Sx (v : Int) ∧ (mi_sA σ0 10 (v : Int) = 3 ∨ mi_sA σ0 10 (v : Int) = 4) ∧ mi_sA σf 13 (mi_sA σ 12 (v : Int)) = 2 * mi_sF σf 9 11 + 1 then T1 (mi_sA σ 12 (v : Int)) else .var v) := by
    intro v hv
    dsimp only
    split
    next q =>
      rw [iH _ q.1 hv, T1v _ (ft_S0 H _ q.1) (Or.inr hv)]
      congr 1
    next => rfl
  have hun1 := (main _ a rfl ha hbla).symm.trans ((congrArg T1 hab).trans (main _ b rfl hb (by rw [← hab]; exact hbla)))
  refine ⟨sg_Af_tr (sg_Af_w F (by decide) (by decide)) (sg_Af_w F2 (by decide) (by decide)), by omega, ga_E_Z E ZJ, fun n h0 h1 h2 => by rw [e12]; exact j4 n h0 h1 h2, fun n h0 h1 => by rw [e12]; exact j3 n h0 h1, fun n hn q => by rw [e12]; exact stay n hn q, Or.inr ⟨rfl, (fun n => Sx n ∧ mi_sA σf 13 n = 2 * mi_sF σf 9 11 + 1), T1, (fun v => if Sx (v : Int) ∧ (mi_sA σ0 10 (v : Int) = 3 ∨ mi_sA σ0 10 (v : Int) = 4) ∧ mi_sA σf 13 (mi_sA σ 12 (v : Int)) = 2 * mi_sF σf 9 11 + 1 then T1 (mi_sA σ 12 (v : Int)) else .var v), HT1, fun n hn => hn.1, ?_, ?_, ?_, ?_, ?_, ?_, fun n hn => by
    rw [e12]
    exact ⟨(iA n hn).1, iB _ hfx1 hun1 n hn⟩, fun n hn q => by
    rw [e12]
    exact iC n hn q, fun n hn q q2 => by
    rw [e12] at q2
    have g1 := (H.2 n hn).1
    have hv : ((n.toNat : Nat) : Int) = n := by omega
    dsimp only
    rw [hv]
    split
    · rw [q2]
      exact T1v n g1.1 (Or.inl q)
    · rfl⟩⟩
  · rw [e12]
    exact ⟨(iA a ha).1, hbla⟩
  · rw [e12]
    exact hab
  · rw [e12]
    exact main _ a rfl ha hbla
  · rw [e12, hab]
    exact main _ b rfl hb (by rw [← hab]; exact hbla)
  · intro v hv
    dsimp only
    split
    next q =>
      rw [iH _ q.1 hv, T1v _ (ft_S0 H _ q.1) (Or.inr hv)]
      congr 1
    next => rfl
  · intro θ h1 h2 v
    have gen : ∀ (m : Nat) (n : Int), (ns (T1 n)).toNat = m → Sx n → mi_sA σf 13 n = 2 * mi_sF σf 9 11 + 1 → sb θ (T1 n) = sb θ (T n) := by
      intro m
      induction m using Nat.strongRecOn with
      | ind m ih =>
        intro n hm hn hb
        obtain ⟨g1, g2, g3, g4, g5, g6, g7⟩ := H.2 n hn
        by_cases e : mi_sA σ0 10 n = 3 ∨ mi_sA σ0 10 n = 4
        · rw [(g5 e).1, T1v n g1.1 e]
        · have h3 : mi_sA σ0 10 n ≠ 3 := fun q => e (Or.inl q)
          have h4 : mi_sA σ0 10 n ≠ 4 := fun q => e (Or.inr q)
          have hB := bl n hb hn
          have ez := ty_T_z HT1 n ⟨hn, hb⟩ hB.1 hB.2.1
          have kk : ∀ k, 0 ≤ k → k < 3 → sb θ (T1 (ty_K' σf n k)) = sb θ (T (ty_K' σ0 n k)) := fun k k0 k1 => by
            by_cases z : ty_K' σ0 n k = 0
            · rw [(K0 n hn k k0 k1).mpr z, z, T10, H.1]
            · have zf : ty_K' σf n k ≠ 0 := fun q => z ((K0 n hn k k0 k1).mp q)
              have hk := (g4 k k0 k1).resolve_left z
              have := ez k k0 k1 zf
              dsimp only at this
              have n0 := ns_0 (T1 (ty_K' σf n k))
              have hKf := ((HT1.2 n ⟨hn, hb⟩).2.2.2.1 k k0 k1).resolve_left zf
              rw [ih _ (by omega) _ rfl hKf.1 hKf.2, eK n hn k k0 k1]
              exact iB θ h1 h2 _ hk
          rw [T1k n hB h3 h4, g6 h3 h4, sb_tn, sb_tn, kk 0 (by omega) (by omega), kk 1 (by omega) (by omega), kk 2 (by omega) (by omega)]
    dsimp only
    split
    next q =>
      rw [gen _ _ rfl (iA _ q.1).1 q.2.2, iB θ h1 h2 _ q.1, ((H.2 _ q.1).2.2.2.2.1 q.2.1).1]
      show θ _ = θ v
      congr 1
    next => rfl
end FQ
