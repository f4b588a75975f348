/-! ===== trees: a node of a tag and three kids, none is num 0; what is unknown, and marks, are variables ===== -/
abbrev tr : Type := Nat.Internal.SOM.Expr
def tr_0 : tr := .num 0
def tn (t : Int) (a b c : tr) : tr := .add (.num t.toNat) (.add a (.add b c))
def sb (θ : Nat → tr) : tr → tr
  | .num i => .num i
  | .var v => θ v
  | .add a b => .add (sb θ a) (sb θ b)
  | .mul a b => .mul (sb θ a) (sb θ b)
def ns : tr → Int
  | .num _ => 0
  | .var _ => 0
  | .add a b => 1 + ns a + ns b
  | .mul a b => 1 + ns a + ns b
/-- v stands in e -/
def vin (v : Nat) : tr → Prop
  | .num _ => False
  | .var w => w = v
  | .add a b => vin v a ∨ vin v b
  | .mul a b => vin v a ∨ vin v b
theorem ns_0 : ∀ e : tr, 0 ≤ ns e
  | .num _ => Int.le_refl _
  | .var _ => Int.le_refl _
  | .add a b => by have := ns_0 a; have := ns_0 b; unfold ns; omega
  | .mul a b => by have := ns_0 a; have := ns_0 b; unfold ns; omega
theorem ns_tn (t : Int) (a b c : tr) : ns a < ns (tn t a b c) ∧ ns b < ns (tn t a b c) ∧ ns c < ns (tn t a b c) := by
  have := ns_0 a
  have := ns_0 b
  have := ns_0 c
  simp only [tn, ns]
  omega
theorem sb_tn {θ : Nat → tr} {t : Int} {a b c : tr} : sb θ (tn t a b c) = tn t (sb θ a) (sb θ b) (sb θ c) := rfl
theorem tn_inj {t t' : Int} {a b c a' b' c' : tr} (h : tn t a b c = tn t' a' b' c') : t.toNat = t'.toNat ∧ a = a' ∧ b = b' ∧ c = c' := by
  unfold tn at h
  injection h with h1 h2
  injection h1 with h1
  injection h2 with h2 h3
  injection h3 with h3 h4
  exact ⟨h1, h2, h3, h4⟩
theorem tn_var {t : Int} {a b c : tr} {v : Nat} : tn t a b c ≠ .var v := fun h => by cases h
theorem tn_num {t : Int} {a b c : tr} {v : Nat} : tn t a b c ≠ .num v := fun h => by cases h
theorem sb_ext {θ η : Nat → tr} : ∀ e : tr, (∀ v, vin v e → θ v = η v) → sb θ e = sb η e
  | .num _, _ => rfl
  | .var v, h => h v rfl
  | .add a b, h => by
    show Nat.Internal.SOM.Expr.add _ _ = Nat.Internal.SOM.Expr.add _ _
    rw [sb_ext a (fun v hv => h v (Or.inl hv)), sb_ext b (fun v hv => h v (Or.inr hv))]
  | .mul a b, h => by
    show Nat.Internal.SOM.Expr.mul _ _ = Nat.Internal.SOM.Expr.mul _ _
    rw [sb_ext a (fun v hv => h v (Or.inl hv)), sb_ext b (fun v hv => h v (Or.inr hv))]
theorem sb_id : ∀ e : tr, sb .var e = e
  | .num _ => rfl
  | .var v => rfl
  | .add a b => by
    show Nat.Internal.SOM.Expr.add _ _ = _
    rw [sb_id a, sb_id b]
  | .mul a b => by
    show Nat.Internal.SOM.Expr.mul _ _ = _
    rw [sb_id a, sb_id b]
theorem sb_sb {θ η : Nat → tr} : ∀ e : tr, sb θ (sb η e) = sb (fun v => sb θ (η v)) e
  | .num _ => rfl
  | .var v => rfl
  | .add a b => by
    show Nat.Internal.SOM.Expr.add _ _ = Nat.Internal.SOM.Expr.add _ _
    rw [sb_sb a, sb_sb b]
  | .mul a b => by
    show Nat.Internal.SOM.Expr.mul _ _ = Nat.Internal.SOM.Expr.mul _ _
    rw [sb_sb a, sb_sb b]
/-- how many parts -/
def pz : tr → Int
  | .num i => if i = 0 then 0 else 1
  | .var _ => 1
  | .add a b => pz a + pz b
  | .mul a b => pz a + pz b
theorem pz_0 : ∀ e : tr, 0 ≤ pz e
  | .num i => by unfold pz; split <;> omega
  | .var _ => by unfold pz; omega
  | .add a b => by have := pz_0 a; have := pz_0 b; unfold pz; omega
  | .mul a b => by have := pz_0 a; have := pz_0 b; unfold pz; omega
theorem pz_tn {t : Int} (ht : 0 < t) (a b c : tr) : pz (tn t a b c) = 1 + pz a + pz b + pz c := by
  simp only [tn, pz]
  rw [if_neg (by omega)]
  omega
/-- what the document calls the order -/
def rk : tr → Int
  | .add (.num t) (.add a (.add b c)) => max (rk a + if t = 6 then 1 else 0) (max (rk b) (rk c))
  | _ => 0
theorem rk_tn {t : Int} (ht : 0 < t) (a b c : tr) : rk (tn t a b c) = max (rk a + if t = 6 then 1 else 0) (max (rk b) (rk c)) := by
  unfold tn
  rw [rk]
  by_cases e : t = 6
  · rw [if_pos e, if_pos (by omega)]
  · rw [if_neg e, if_neg (by omega)]
