/-! ===== whether a part stands in ( and ), in trees ===== -/
def brk (w : Nat) : tr → Bool
  | .add (.num t) _ => (t == 5 && decide (1 < w)) || (t == 6 && decide (0 < w)) || (t == 9 && w == 3)
  | _ => false
theorem brk_tn {w : Nat} {t : Int} {a b c : tr} : brk w (tn t a b c) = ((t.toNat == 5 && decide (1 < w)) || (t.toNat == 6 && decide (0 < w)) || (t.toNat == 9 && w == 3)) := rfl
def pos (t w : Int) : Nat := if t = 5 then 2 else if t = 6 then (if w = 0 then 1 else 0) else 3
/-- only these tags -/
def tg7 (σ : mi_Sg) (Sx : Int → Prop) : Prop := ∀ n, Sx n → mi_sA σ 10 n = 1 ∨ mi_sA σ 10 n = 2 ∨ mi_sA σ 10 n = 3 ∨ mi_sA σ 10 n = 4 ∨ mi_sA σ 10 n = 5 ∨ mi_sA σ 10 n = 6 ∨ mi_sA σ 10 n = 9
theorem kid_T {σ : mi_Sg} {Sx : Int → Prop} {T : Int → tr} (H : ty_T σ Sx T) {n w : Int} (hn : Sx n) (w0 : 0 ≤ w) (w1 : w < ar (mi_sA σ 10 n)) (w3 : w < 3) : Sx (ty_K' σ n w) := by
  obtain ⟨-, -, -, g4, -, -, g7⟩ := H.2 n hn
  rcases g4 w w0 w3 with q | q
  · have := (g7 w w0 w3).1 q
    omega
  · exact q
theorem iw_T {X : mi_X} {d : Nat} {σ : mi_Sg} {Sx : Int → Prop} {T : Int → tr} {n w : Int} (H : ty_T σ Sx T) (Z : ty_Z σ) (G : tg7 σ Sx) (hn : Sx n) (hw : (mi_sA σ 10 n = 5 ∧ (w = 0 ∨ w = 1)) ∨ (mi_sA σ 10 n = 6 ∧ (w = 0 ∨ w = 1)) ∨ (mi_sA σ 10 n = 9 ∧ w = 0)) : ty_Ci X (d + 2) mi_M153 [(0, .ref 52), (1, .int (Int32.ofInt n)), (2, .int (Int32.ofInt w))] σ (fun x σ' => x = (if brk (pos (mi_sA σ 10 n) w) (T (ty_K' σ n w)) = true then 1 else 0) ∧ σ' = σ) := by
  have hw3 : 0 ≤ w ∧ w < 3 := by omega
  have hc : Sx (ty_K' σ n w) := kid_T H hn hw3.1 (by
    unfold ar
    rcases hw with ⟨q, q2⟩ | ⟨q, q2⟩ | ⟨q, q2⟩ <;> rw [q] <;> simp <;> omega) hw3.2
  obtain ⟨⟨n0, n1⟩, n2, -⟩ := H.2 n hn
  obtain ⟨⟨c0, c1⟩, c2, -, -, c5, c6, -⟩ := H.2 _ hc
  have hk := Z.2.1 n w n0 n1 hw3.1 hw3.2
  have hG := G _ hc
  have hb : ∀ kt, mi_sA σ 10 (ty_K' σ n w) = kt → kt = 3 ∨ kt = 4 → ∀ v, brk v (T (ty_K' σ n w)) = false := fun kt e q v => by
    rw [(c5 (by omega)).1]
    rfl
  have ht : ∀ kt, mi_sA σ 10 (ty_K' σ n w) = kt → kt ≠ 3 → kt ≠ 4 → ∀ v, brk v (T (ty_K' σ n w)) = ((kt.toNat == 5 && decide (1 < v)) || (kt.toNat == 6 && decide (0 < v)) || (kt.toNat == 9 && v == 3)) := fun kt e q1 q2 v => by
    rw [c6 (by omega) (by omega), brk_tn, e]
  generalize hkt : mi_sA σ 10 (ty_K' σ n w) = kt at *
  have hbv : ∀ v, brk v (T (ty_K' σ n w)) = ((kt.toNat == 5 && decide (1 < v)) || (kt.toNat == 6 && decide (0 < v)) || (kt.toNat == 9 && v == 3)) := fun v => by
    by_cases q : kt = 3 ∨ kt = 4
    · rw [hb kt rfl q v]
      rcases q with rfl | rfl <;> rfl
    · exact ht kt rfl (by omega) (by omega) v
  rw [hbv]
  have q0 : 0 ≤ kt := by omega
  have q1 : kt ≤ 100 := by omega
  rcases hw with ⟨et, rfl | rfl⟩ | ⟨et, rfl | rfl⟩ | ⟨et, rfl⟩
  · rw [et]
    rcases hG with rfl | rfl | rfl | rfl | rfl | rfl | rfl
    · exact iw_p0_0 n0 n1 n2 hk et c0 c1 c2 hkt q0 q1 (by omega)
    · exact iw_p0_0 n0 n1 n2 hk et c0 c1 c2 hkt q0 q1 (by omega)
    · exact iw_p0_0 n0 n1 n2 hk et c0 c1 c2 hkt q0 q1 (by omega)
    · exact iw_p0_0 n0 n1 n2 hk et c0 c1 c2 hkt q0 q1 (by omega)
    · exact iw_p5_0 n0 n1 n2 hk et c0 c1 c2 hkt q0 q1 rfl
    · exact iw_p6_0 n0 n1 n2 hk et c0 c1 c2 hkt q0 q1 rfl
    · exact iw_p0_0 n0 n1 n2 hk et c0 c1 c2 hkt q0 q1 (by omega)
  · rw [et]
    rcases hG with rfl | rfl | rfl | rfl | rfl | rfl | rfl
    · exact iw_p0_1 n0 n1 n2 hk et c0 c1 c2 hkt q0 q1 (by omega)
    · exact iw_p0_1 n0 n1 n2 hk et c0 c1 c2 hkt q0 q1 (by omega)
    · exact iw_p0_1 n0 n1 n2 hk et c0 c1 c2 hkt q0 q1 (by omega)
    · exact iw_p0_1 n0 n1 n2 hk et c0 c1 c2 hkt q0 q1 (by omega)
    · exact iw_p5_1 n0 n1 n2 hk et c0 c1 c2 hkt q0 q1 rfl
    · exact iw_p6_1 n0 n1 n2 hk et c0 c1 c2 hkt q0 q1 rfl
    · exact iw_p0_1 n0 n1 n2 hk et c0 c1 c2 hkt q0 q1 (by omega)
  · rw [et]
    rcases hG with rfl | rfl | rfl | rfl | rfl | rfl | rfl
    · exact iw_f0 n0 n1 n2 hk et c0 c1 c2 hkt q0 q1 (by omega)
    · exact iw_f0 n0 n1 n2 hk et c0 c1 c2 hkt q0 q1 (by omega)
    · exact iw_f0 n0 n1 n2 hk et c0 c1 c2 hkt q0 q1 (by omega)
    · exact iw_f0 n0 n1 n2 hk et c0 c1 c2 hkt q0 q1 (by omega)
    · exact iw_f0 n0 n1 n2 hk et c0 c1 c2 hkt q0 q1 (by omega)
    · exact iw_f1 n0 n1 n2 hk et c0 c1 c2 hkt q0 q1 rfl
    · exact iw_f0 n0 n1 n2 hk et c0 c1 c2 hkt q0 q1 (by omega)
  · rw [et]
    have := iw_f2 (X := X) (d := d) n0 n1 n2 hk et c0 c1 c2 hkt q0 q1
    rcases hG with rfl | rfl | rfl | rfl | rfl | rfl | rfl <;> exact this
  · rw [et]
    rcases hG with rfl | rfl | rfl | rfl | rfl | rfl | rfl
    · exact iw_l0 n0 n1 n2 hk et c0 c1 c2 hkt q0 q1 (by omega)
    · exact iw_l0 n0 n1 n2 hk et c0 c1 c2 hkt q0 q1 (by omega)
    · exact iw_l0 n0 n1 n2 hk et c0 c1 c2 hkt q0 q1 (by omega)
    · exact iw_l0 n0 n1 n2 hk et c0 c1 c2 hkt q0 q1 (by omega)
    · exact iw_l5 n0 n1 n2 hk et c0 c1 c2 hkt q0 q1 rfl
    · exact iw_l6 n0 n1 n2 hk et c0 c1 c2 hkt q0 q1 rfl
    · have hc2 : Sx (ty_K' σ (ty_K' σ n 0) 0) := kid_T H hc (by omega) (by rw [hkt]; decide) (by omega)
      have := (H.2 _ hc2).1
      exact iw_l9 n0 n1 n2 hk et c0 c1 c2 hkt q0 q1 (Z.2.1 _ 0 c0 c1 (by omega) (by omega)) this.1 this.2 rfl
