/-! ===== between calls: what a query leaves; two copies ===== -/
def qfA : List Nat := [5, 6, 7, 10, 11, 12, 13, 14, 15, 16, 35, 36, 37, 38, 39, 40, 41, 53, 54]
def qfF : List (Nat × Nat) := [(0, 10), (2, 0), (2, 1), (3, 6), (3, 7), (9, 8), (9, 10), (9, 11), (34, 7), (42, 2), (42, 3), (43, 6), (43, 7), (43, 9), (43, 10), (44, 3), (52, 4), (52, 5), (52, 6)]
/-- the other rows are as they were; so are the nodes that were there -/
def QF (σ σ' : mi_Sg) : Prop := (∀ (k : Nat) (i : Int), k ∉ qfA → mi_sA σ' k i = mi_sA σ k i) ∧ (∀ k j : Nat, (k, j) ∉ qfF → mi_sF σ' k j = mi_sF σ k j) ∧ (∀ (k : Nat) (i : Int), k ≠ 8 → mi_sE σ' k i = mi_sE σ k i) ∧ ∀ n, 0 < n → n < mi_sF σ 9 9 → mi_sA σ' 10 n = mi_sA σ 10 n ∧ mi_sA σ' 12 n = mi_sA σ 12 n ∧ ∀ k, 0 ≤ k → k < 3 → ty_k σ' n k = ty_k σ n k
theorem QF_rf {σ : mi_Sg} : QF σ σ := ⟨fun _ _ _ => rfl, fun _ _ _ => rfl, fun _ _ _ => rfl, fun _ _ _ => ⟨rfl, rfl, fun _ _ _ => rfl⟩⟩
theorem QF_9 {σ σ' : mi_Sg} (q : QF σ σ') : mi_sF σ' 9 9 = mi_sF σ 9 9 := q.2.1 9 9 (by decide)
theorem QF_tr {a b c : mi_Sg} (p : QF a b) (q : QF b c) : QF a c := ⟨fun k i h => (q.1 k i h).trans (p.1 k i h), fun k j h => (q.2.1 k j h).trans (p.2.1 k j h), fun k i h => (q.2.2.1 k i h).trans (p.2.2.1 k i h), fun n n0 n1 => by
  obtain ⟨a1, a2, a3⟩ := p.2.2.2 n n0 n1
  obtain ⟨b1, b2, b3⟩ := q.2.2.2 n n0 (by rw [QF_9 p]; exact n1)
  exact ⟨b1.trans a1, b2.trans a2, fun k k0 k1 => (b3 k k0 k1).trans (a3 k k0 k1)⟩⟩
theorem QF_sg {σ σ' : mi_Sg} {ks : List Nat} {fs : List (Nat × Nat)} (F : sg_Af ks fs σ σ') (h1 : ∀ k ∈ ks, k ∈ qfA) (h2 : ∀ k ∈ fs, k ∈ qfF) (h3 : ∀ n, 0 < n → n < mi_sF σ 9 9 → mi_sA σ' 10 n = mi_sA σ 10 n ∧ mi_sA σ' 12 n = mi_sA σ 12 n ∧ ∀ k, 0 ≤ k → k < 3 → ty_k σ' n k = ty_k σ n k) : QF σ σ' := ⟨fun k i h => F.2.1 k i (fun q => h (h1 k q)), fun k j h => F.2.2 k j (fun q => h (h2 _ q)), fun k i _ => by rw [sg_E F k], h3⟩
/-- where no node is touched -/
theorem QF_s0 {σ σ' : mi_Sg} {ks : List Nat} {fs : List (Nat × Nat)} (F : sg_Af ks fs σ σ') (h1 : ∀ k ∈ ks, k ∈ qfA) (h2 : ∀ k ∈ fs, k ∈ qfF) (h3 : 10 ∉ ks ∧ 11 ∉ ks ∧ 12 ∉ ks) : QF σ σ' := QF_sg F h1 h2 fun n _ _ => ⟨F.2.1 10 n h3.1, F.2.1 12 n h3.2.2, fun _ _ _ => F.2.1 11 _ h3.2.1⟩
theorem QF_uF {σ σ' : mi_Sg} {k j : Nat} {x : Int} (p : QF σ σ') (h : (k, j) ∈ qfF) : QF σ (mi_uF σ' k j x) := ⟨fun k' i' h' => p.1 k' i' h', fun k' j' h' => by
  rw [mi_FF, if_neg (fun q => h' (by rw [q.1, q.2]; exact h))]
  exact p.2.1 k' j' h', fun k' i' a => p.2.2.1 k' i' a, p.2.2.2⟩
theorem BB_q {σ σ' : mi_Sg} (B : BB σ) (Q : QF σ σ') (h : 13 ≤ mi_sF σ 9 9) : BB σ' := BB_c B (fun i => Q.2.2.1 18 i (by decide)) (fun i => Q.1 19 i (by decide)) (fun i => Q.2.2.1 4 i (by decide)) (fun i a b => by
  have := (Q.2.2.2 (i / 3) (by omega) (by omega)).2.2 (i % 3) (by omega) (by omega)
  unfold ty_k at this
  rw [show i / 3 * 3 + i % 3 = i by omega] at this
  exact this)
theorem PI_q {σ σ' : mi_Sg} {ds : List (Int64 × tr)} (P : PI σ ds) (Q : QF σ σ') (e8 : mi_sF σ' 9 8 = mi_sF σ 9 8) (Z : ty_Z σ') (z0 : mi_sA σ 12 0 = 0) (z0' : mi_sA σ' 12 0 = 0) (h13 : 13 ≤ mi_sF σ 9 9) (e0 : mi_sF σ' 0 10 = 0) : PI σ' ds := by
  obtain ⟨⟨Sx, T, C, hm⟩, ⟨k1, k2, k3, k4, k5, k6, k7⟩, n14, f9, -⟩ := P
  have X : ty_X σ σ' := ⟨by omega, fun n n0 n1 => Q.2.2.2 n n0 (by omega), by rw [z0, z0']⟩
  have e9 := QF_9 Q
  have e24 : mi_sA σ' 24 = mi_sA σ 24 := funext fun i => Q.1 24 i (by decide)
  have e23 : mi_sE σ' 23 = mi_sE σ 23 := funext fun i => Q.2.2.1 23 i (by decide)
  obtain ⟨c1, c2, c3, c4, c5, c6⟩ := C
  have tg : ∀ n, Sx n → ∀ v, vin v (T n) → mi_sA σ' 10 (v : Int) = mi_sA σ 10 (v : Int) := fun n hn v hv => by
    have z := (c1.2 _ (ty_T_vin c1 _ _ rfl hn hv).1).1
    exact (X.2.1 _ z.1 z.2).1
  refine ⟨⟨Sx, T, ⟨ty_X_T (by omega) X c2.2.1 c1 (fun _ _ _ => rfl), Z, c3, c4, c5, fun i q hq => ?_⟩, fun n hn v hv => by rw [tg n hn v hv]; exact hm n hn v hv⟩, ⟨(Q.2.1 17 12 (by decide)).trans k1, (Q.2.2.1 18 0 (by decide)).trans k2, (Q.2.2.1 18 1 (by decide)).trans k3, (Q.2.2.1 18 2 (by decide)).trans k4, (Q.1 19 0 (by decide)).trans k5, (Q.1 19 1 (by decide)).trans k6, (Q.1 19 2 (by decide)).trans k7⟩, (Q.2.1 17 14 (by decide)).trans n14, by omega, e0⟩
  obtain ⟨q1, q2, q3, q4, q5, q6⟩ := c6 i q hq
  rw [e24, e23, e8, (X.2.1 _ q2.1 q2.2).2.1]
  refine ⟨q1, q2, q3, q4, q5, fun v hv => ?_⟩
  rw [tg _ q3 v (by rw [q4]; exact hv)]
  exact q6 v hv
section TC
variable {X : mi_X} {d : Nat} {σ : mi_Sg} {ds : List (Int64 × tr)} {Sx : Int → Prop} {T : Int → tr}
/-- two types are copied, the second with its marks or without -/
def TC (σ : mi_Sg) (ta tb : tr) (stay x y : Int) (σ2 : mi_Sg) : Prop := ∃ (S2 : Int → Prop) (T2 : Int → tr) (ν ν' : Int → Int) (σ1 : mi_Sg), (ty_T σ2 S2 T2 ∧ ty_Z σ2 ∧ (∀ n, S2 n → wt (T2 n)) ∧ S2 x ∧ S2 y ∧ ∀ n, S2 n → mi_sA σ2 10 n = 3 ∨ 5 ≤ mi_sA σ2 10 n → mi_sF σ 9 9 ≤ n) ∧ (ty_X σ σ1 ∧ ty_X σ1 σ2 ∧ sg_Af [10, 11, 12, 13, 14, 15, 16] [(9, 8), (9, 10), (9, 11)] σ σ2 ∧ mi_sF σ2 9 11 = mi_sF σ 9 11 + 2 ∧ mi_sF σ2 9 8 ≤ mi_sF σ 9 8 + pz ta + pz tb) ∧ (T2 x = sb (fun v => .var (ν (v : Int)).toNat) ta ∧ (∀ v, vin v ta → (mi_sF σ 9 8 ≤ ν (v : Int) ∧ ν (v : Int) < mi_sF σ1 9 8) ∧ mi_sA σ2 10 (ν (v : Int)) = 3) ∧ ∀ v w, vin v ta → vin w ta → ν (v : Int) = ν (w : Int) → v = w) ∧ (∀ v, vin v tb → mi_sA σ2 10 (v : Int) = 4) ∧ (stay = 1 → T2 y = tb) ∧ (stay = 0 → T2 y = sb (fun v => .var (ν' (v : Int)).toNat) tb ∧ (∀ v, vin v tb → mi_sF σ1 9 8 ≤ ν' (v : Int) ∧ mi_sA σ2 10 (ν' (v : Int)) = 3) ∧ ∀ v w, vin v tb → vin w tb → ν' (v : Int) = ν' (w : Int) → v = w)
theorem two_cp {a b : Nat} {ka kb' : Int64} {ta tb : tr} {stay : Int} {P : Int → Int → mi_Sg → Prop} (C : CI Sx T σ ds) (hm : ∀ n, Sx n → ∀ v, vin v (T n) → mi_sA σ 10 (v : Int) = 4) (h98 : mi_sF σ 9 9 = mi_sF σ 9 8) (h13 : 13 ≤ mi_sF σ 9 9) (ha : ds[a]? = some (ka, ta)) (hb : ds[b]? = some (kb', tb)) (hst : stay = 0 ∨ stay = 1) (hroom : mi_sF σ 9 8 + pz ta + pz tb ≤ 512) (hr : mi_sF σ 9 11 < 99999000)
    (K : ∀ x y σ2, TC σ ta tb stay x y σ2 → P x y σ2) : ty_Ci X (d + 3) mi_M122 [(0, .ref 9), (1, .int (Int32.ofInt (mi_sA σ 24 (a : Int)))), (2, .int (Int32.ofInt 0))] σ (fun x σ1 => (mi_sF σ1 17 14 = mi_sF σ 17 14 ∧ mi_sA σ1 24 (b : Int) = mi_sA σ 24 (b : Int)) ∧ ty_Ci X (d + 3) mi_M122 [(0, .ref 9), (1, .int (Int32.ofInt (mi_sA σ 24 (b : Int)))), (2, .int (Int32.ofInt stay))] σ1 (fun y σ2 => P x y σ2)) := by
  obtain ⟨c1, c2, c3, c4, c5, c6⟩ := id C
  obtain ⟨a1, a2, a3, a4, a5, a6⟩ := c6 a _ ha
  obtain ⟨b1, b2, b3, b4, b5, b6⟩ := c6 b _ hb
  replace a4 : T (mi_sA σ 12 (mi_sA σ 24 (a : Int))) = ta := a4
  replace b4 : T (mi_sA σ 12 (mi_sA σ 24 (b : Int))) = tb := b4
  replace a6 : ∀ v, vin v ta → mi_sA σ 10 (v : Int) = 4 := a6
  replace b6 : ∀ v, vin v tb → mi_sA σ 10 (v : Int) = 4 := b6
  have no3 : ∀ n, Sx n → mi_sA σ 10 n ≠ 3 := fun n hn q => by
    have g := c1.2 n hn
    have := hm n hn n.toNat (by rw [(g.2.2.2.2.1 (Or.inl q)).1]; rfl)
    rw [show ((n.toNat : Nat) : Int) = n by omega] at this
    omega
  have pa := pz_0 ta
  have pb := pz_0 tb
  refine ty_Ci_s (ty_copy (d := d) (Sx := Sx) (T := T) c2 (by omega) c1 a2.1 a2.2 a3 (by rw [a4]; omega) (Or.inl rfl) ⟨by omega, by omega⟩ (fun n hn q => absurd q (no3 n hn))) fun x σ1 h1 S1 Q1 => ?_
  obtain ⟨S2, T2, ν, X1, F1, r1, Z1, eT, f8, H1, hx, ex, n1, n2, lo⟩ := Q1
  rw [a4] at ex f8 n1 n2
  have H0 := ty_X_T (T' := T2) (by omega) X1 c2.2.1 c1 eT
  have e24 : mi_sA σ1 24 = mi_sA σ 24 := sg_Af_Ak F1 (by decide)
  have e99 : mi_sF σ1 9 9 = mi_sF σ 9 9 := F1.2.2 9 9 (by decide)
  refine ⟨⟨F1.2.2 17 14 (by decide), by rw [e24]⟩, ?_⟩
  have r12 : mi_sA σ1 12 (mi_sA σ 24 (b : Int)) = mi_sA σ 12 (mi_sA σ 24 (b : Int)) := (X1.2.1 _ b2.1 b2.2).2.1
  have X18 := X1.1
  have rb := (c1.2 _ b3).1
  have eTb : T2 (mi_sA σ 12 (mi_sA σ 24 (b : Int))) = tb := by
    rw [eT _ (by omega) rb.2]; exact b4
  refine ty_Ci_s (ty_copy (d := d) (Sx := Sx) (T := T2) Z1 (by omega) H0 b2.1 (by omega) (by rw [r12]; exact b3) (by rw [r12, eTb]; omega) hst ⟨by omega, by omega⟩ (fun n hn q => by
    have g := (c1.2 n hn).1
    rw [(X1.2.1 n g.1 g.2).1] at q
    exact absurd q (no3 n hn))) fun y σ2 h2 S2' Q2 => ?_
  rw [r12] at Q2
  obtain ⟨S3, T3, ν', X2, F2, r2, Z2, eT2, g8, H2, hy, ey, m1, m2, lo2⟩ := Q2
  rw [eTb] at ey g8 m1 m2
  have H1' := ty_X_T (T' := T3) (by omega) X2 Z1.2.1 H1 eT2
  have H3 := ty_T_wt (ty_T_or H1' H2)
  have rx := (H1.2 x hx).1
  have eTx : T3 x = T2 x := eT2 x (by omega) rx.2
  have sx : sb (cp_t 0 σ ν) ta = sb (fun v => .var (ν (v : Int)).toNat) ta := sb_ext _ fun v hv => by
    unfold cp_t
    rw [if_pos ⟨a6 v hv, rfl⟩]
  have vb : ∀ v, vin v tb → 0 < (v : Int) ∧ (v : Int) < mi_sF σ 9 8 := fun v hv => CI_vl C b3 (by rw [b4]; exact hv)
  have tb4 : ∀ v, vin v tb → mi_sA σ1 10 (v : Int) = 4 := fun v hv => by
    rw [(X1.2.1 _ (vb v hv).1 (vb v hv).2).1]; exact b6 v hv
  have nub : ∀ v, vin v ta → ν (v : Int) < mi_sF σ1 9 8 := fun v hv => by
    have hv' : vin (ν (v : Int)).toNat (T2 x) := by
      rw [ex, sx]; exact vin_sb' (θ := fun v => .var (ν (v : Int)).toNat) (v := v) rfl _ hv
    have z := (H1.2 _ (ty_T_vin H1 _ _ rfl hx hv').1).1
    have := (n1 rfl v hv (a6 v hv)).1
    omega
  refine K x y σ2 ⟨fun n => (S2 n ∨ S3 n) ∧ wt (T3 n), T3, ν, ν', σ1, ⟨H3, Z2, fun n hn => hn.2, ⟨Or.inl hx, ?_⟩, ⟨Or.inr hy, ?_⟩, fun n hn q => ?_⟩, ⟨X1, X2, sg_Af_tr F1 F2, by omega, by omega⟩, ⟨by rw [eTx, ex, sx], fun v hv => ?_, fun v w hv hw e => n2 rfl v w hv hw (a6 v hv) (a6 w hw) e⟩, fun v hv => ?_, fun e => ?_, fun e => ?_⟩
  · rw [eTx, ex, sx]; exact wt_sb _ _ rfl a5 fun v _ => True.intro
  · rw [ey]
    refine wt_sb _ _ rfl b5 fun v _ => ?_
    unfold cp_t
    split <;> exact True.intro
  · rcases hn.1 with h | h
    · have g := (H1.2 n h).1
      rw [(X2.2.1 n g.1 g.2).1] at q
      exact lo n h q
    · rw [← e99]; exact lo2 n h q
  · obtain ⟨p, q⟩ := n1 rfl v hv (a6 v hv)
    have := nub v hv
    refine ⟨⟨p, this⟩, ?_⟩
    rw [(X2.2.1 _ (by omega) this).1]; exact q
  · have g := vb v hv
    rw [(X2.2.1 _ g.1 (by omega)).1]; exact tb4 v hv
  · rw [ey]
    rw [sb_ext (η := .var) tb (fun v _ => by unfold cp_t; rw [if_neg (fun q => by omega)])]
    exact sb_id tb
  · subst e
    refine ⟨?_, fun v hv => m1 rfl v hv (tb4 v hv), fun v w hv hw q => m2 rfl v w hv hw (tb4 v hv) (tb4 w hw) q⟩
    rw [ey]
    refine sb_ext _ fun v hv => ?_
    unfold cp_t
    rw [if_pos ⟨tb4 v hv, rfl⟩]
end TC
