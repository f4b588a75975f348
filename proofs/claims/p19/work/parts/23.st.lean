/-! ===== the class's cells as numbers: fields, rows of ints, long fields, rows of longs ===== -/
abbrev mi_Sg : Type := (Nat → Nat → Int) × (Nat → Int → Int) × (Nat → Nat → Int64) × (Nat → Int → Int64)
def mi_sF (σ : mi_Sg) (k j : Nat) : Int := σ.1 k j
def mi_sA (σ : mi_Sg) (k : Nat) (i : Int) : Int := σ.2.1 k i
def mi_sB (σ : mi_Sg) (k j : Nat) : Int64 := σ.2.2.1 k j
def mi_sE (σ : mi_Sg) (k : Nat) (i : Int) : Int64 := σ.2.2.2 k i
def mi_uF (σ : mi_Sg) (k j : Nat) (x : Int) : mi_Sg := (fun k' j' => if k' = k ∧ j' = j then x else σ.1 k' j', σ.2)
def mi_uA (σ : mi_Sg) (k : Nat) (i x : Int) : mi_Sg := (σ.1, fun k' i' => if k' = k ∧ i' = i then x else σ.2.1 k' i', σ.2.2)
def mi_uB (σ : mi_Sg) (k j : Nat) (x : Int64) : mi_Sg := (σ.1, σ.2.1, fun k' j' => if k' = k ∧ j' = j then x else σ.2.2.1 k' j', σ.2.2.2)
def mi_uE (σ : mi_Sg) (k : Nat) (i : Int) (x : Int64) : mi_Sg := (σ.1, σ.2.1, σ.2.2.1, fun k' i' => if k' = k ∧ i' = i then x else σ.2.2.2 k' i')
section MS0
variable {σ : mi_Sg} {k k' j j' : Nat} {i i' x : Int} {y : Int64}
theorem mi_FF : mi_sF (mi_uF σ k j x) k' j' = if k' = k ∧ j' = j then x else mi_sF σ k' j' := rfl
theorem mi_FA : mi_sF (mi_uA σ k i x) k' j' = mi_sF σ k' j' := rfl
theorem mi_FB : mi_sF (mi_uB σ k j y) k' j' = mi_sF σ k' j' := rfl
theorem mi_FE : mi_sF (mi_uE σ k i y) k' j' = mi_sF σ k' j' := rfl
theorem mi_AF : mi_sA (mi_uF σ k j x) k' i' = mi_sA σ k' i' := rfl
theorem mi_AA : mi_sA (mi_uA σ k i x) k' i' = if k' = k ∧ i' = i then x else mi_sA σ k' i' := rfl
theorem mi_AB : mi_sA (mi_uB σ k j y) k' i' = mi_sA σ k' i' := rfl
theorem mi_AE : mi_sA (mi_uE σ k i y) k' i' = mi_sA σ k' i' := rfl
theorem mi_BF : mi_sB (mi_uF σ k j x) k' j' = mi_sB σ k' j' := rfl
theorem mi_BA : mi_sB (mi_uA σ k i x) k' j' = mi_sB σ k' j' := rfl
theorem mi_BB : mi_sB (mi_uB σ k j y) k' j' = if k' = k ∧ j' = j then y else mi_sB σ k' j' := rfl
theorem mi_BE : mi_sB (mi_uE σ k i y) k' j' = mi_sB σ k' j' := rfl
theorem mi_EF : mi_sE (mi_uF σ k j x) k' i' = mi_sE σ k' i' := rfl
theorem mi_EA : mi_sE (mi_uA σ k i x) k' i' = mi_sE σ k' i' := rfl
theorem mi_EB : mi_sE (mi_uB σ k j y) k' i' = mi_sE σ k' i' := rfl
theorem mi_EE : mi_sE (mi_uE σ k i y) k' i' = if k' = k ∧ i' = i then y else mi_sE σ k' i' := rfl
end MS0
def mi_tI : List (Nat × Nat × Nat) := [(0, 10, 10), (2, 1, 0), (2, 1, 1), (3, 7, 6), (3, 7, 7), (9, 8, 7), (9, 8, 8), (9, 8, 9), (9, 8, 10), (9, 8, 11), (17, 3, 9), (17, 3, 10), (17, 3, 11), (17, 3, 12), (17, 3, 13), (17, 3, 14), (26, 6, 7), (34, 6, 7), (42, 4, 3), (43, 0, 7), (43, 0, 9), (43, 0, 10), (43, 0, 11), (44, 5, 3), (48, 2, 7), (48, 2, 8), (48, 2, 9), (52, 9, 4), (52, 9, 5), (52, 9, 6)]
def mi_tV : List (Nat × Nat × Nat) := [(42, 4, 2), (43, 0, 6)]
def mi_tJ : List (Nat × Nat × Nat) := [(43, 0, 8), (48, 2, 10)]
def mi_tR : List (Nat × Nat × Nat × Nat) := [(0, 10, 0, 1), (0, 10, 1, 2), (0, 10, 2, 3), (0, 10, 3, 9), (0, 10, 4, 17), (0, 10, 5, 26), (0, 10, 6, 34), (0, 10, 7, 42), (0, 10, 8, 43), (0, 10, 9, 52), (3, 7, 0, 1), (3, 7, 1, 4), (3, 7, 2, 5), (3, 7, 3, 6), (3, 7, 4, 7), (3, 7, 5, 8), (9, 8, 0, 10), (9, 8, 1, 11), (9, 8, 2, 12), (9, 8, 3, 13), (9, 8, 4, 14), (9, 8, 5, 15), (9, 8, 6, 16), (17, 3, 0, 9), (17, 3, 1, 18), (17, 3, 2, 19), (17, 3, 3, 20), (17, 3, 4, 21), (17, 3, 5, 22), (17, 3, 6, 23), (17, 3, 7, 24), (17, 3, 8, 25), (26, 6, 0, 27), (26, 6, 1, 28), (26, 6, 2, 29), (26, 6, 3, 30), (26, 6, 4, 31), (26, 6, 5, 32), (26, 6, 6, 33), (34, 6, 0, 35), (34, 6, 1, 36), (34, 6, 2, 37), (34, 6, 3, 38), (34, 6, 4, 39), (34, 6, 5, 40), (34, 6, 6, 41), (42, 4, 0, 3), (42, 4, 1, 2), (43, 0, 0, 3), (43, 0, 1, 9), (43, 0, 2, 17), (43, 0, 3, 2), (43, 0, 4, 48), (43, 0, 5, 44), (44, 5, 0, 45), (44, 5, 1, 46), (44, 5, 2, 47), (48, 2, 0, 3), (48, 2, 1, 9), (48, 2, 2, 17), (48, 2, 3, 2), (48, 2, 4, 49), (48, 2, 5, 50), (48, 2, 6, 51), (52, 9, 0, 9), (52, 9, 1, 17), (52, 9, 2, 53), (52, 9, 3, 54)]
def mi_tA : List (Nat × Nat × Nat) := [(1, 2, 1200), (5, 0, 301), (6, 0, 301), (7, 0, 301), (10, 0, 512), (11, 0, 1536), (12, 0, 512), (13, 0, 512), (14, 0, 512), (15, 0, 512), (16, 0, 512), (19, 0, 9), (21, 0, 26), (22, 0, 26), (24, 0, 24), (25, 0, 576), (27, 0, 1024), (28, 0, 1024), (29, 0, 1024), (30, 0, 1024), (31, 0, 1024), (32, 0, 1024), (33, 0, 1024), (35, 0, 1024), (36, 0, 1024), (37, 0, 1024), (38, 0, 1024), (39, 0, 1024), (40, 0, 1024), (41, 0, 1024), (46, 0, 300), (47, 3, 300), (49, 0, 26), (50, 0, 3), (51, 0, 300), (53, 2, 400), (54, 0, 1024)]
def mi_tL : List (Nat × Nat) := [(4, 13), (8, 301), (18, 9), (20, 26), (23, 24), (45, 300)]
theorem mi_tVR : ∀ q ∈ mi_tR, ∀ p ∈ mi_tV, ¬ (q.1 = p.1 ∧ q.2.2.1 = p.2.2) := by decide +kernel
/-- the cells hold what σ says -/
def mi_St (h : mi_H) (σ : mi_Sg) : Prop :=
  (∀ q ∈ mi_tI, mi_fv h q.1 q.2.1 q.2.2 = some (.int (Int32.ofInt (mi_sF σ q.1 q.2.2)))) ∧
  (∀ q ∈ mi_tV, mi_fv h q.1 q.2.1 q.2.2 = some (.ref (mi_sF σ q.1 q.2.2).toNat)) ∧
  (∀ q ∈ mi_tJ, mi_fv h q.1 q.2.1 q.2.2 = some (.long (mi_sB σ q.1 q.2.2))) ∧
  (∀ q ∈ mi_tR, mi_fv h q.1 q.2.1 q.2.2.1 = some (.ref q.2.2.2)) ∧
  (∀ q ∈ mi_tA, mi_ai h q.1 = some (q.2.1, q.2.2, fun i : Nat => Int32.ofInt (mi_sA σ q.1 (i : Int)))) ∧
  (∀ q ∈ mi_tL, mi_al h q.1 = some (q.2, fun i : Nat => mi_sE σ q.1 (i : Int)))
/-- cells of others stay as they are -/
def mi_Fm (h h' : mi_H) : Prop := h'.length = h.length ∧ ∀ k : Nat, 55 ≤ k → h'[k]? = h[k]?
theorem mi_Fm_rf (h : mi_H) : mi_Fm h h := ⟨rfl, fun _ _ => rfl⟩
theorem mi_Fm_tr {a b c : mi_H} (p : mi_Fm a b) (q : mi_Fm b c) : mi_Fm a c := ⟨q.1.trans p.1, fun k hk => (q.2 k hk).trans (p.2 k hk)⟩
theorem mi_fv_ci {h : mi_H} {k ci ci' j j' : Nat} {v w : Value} (a : mi_fv h k ci j = some v) (b : mi_fv h k ci' j' = some w) : ci = ci' := by
  obtain ⟨o, h1, -⟩ := mi_fv_inv a
  obtain ⟨o', h2, -⟩ := mi_fv_inv b
  rw [h1] at h2
  cases h2
  rfl
/-- a field of another kind is another field -/
theorem mi_fv_dis {h : mi_H} {k ci j k' ci' j' : Nat} {v w : Value} (a : mi_fv h k ci j = some v) (b : mi_fv h k' ci' j' = some w) (hne : v ≠ w) : k' ≠ k ∨ j' ≠ j := by
  by_cases hk : k' = k
  · refine Or.inr (fun hj => ?_)
    subst hk hj
    obtain rfl := mi_fv_ci a b
    rw [a] at b
    exact hne (Option.some.inj b)
  · exact Or.inl hk
theorem mi_Fm_pw {h : mi_H} {k ci j : Nat} {v : Value} (hk : k < 55) : mi_Fm h (mi_pw h k ci j v) := ⟨mi_pw_len, fun k' hk' => by
  unfold mi_pw
  split
  next => exact mi_set_ne (by omega)
  next => rfl⟩
theorem mi_Fm_aw {h : mi_H} {k i : Nat} {x : Int32} (hk : k < 55) : mi_Fm h (mi_aw h k i x) := ⟨mi_aw_len, fun k' hk' => by
  unfold mi_aw
  split
  next => exact mi_set_ne (by omega)
  next => rfl⟩
theorem mi_Fm_lw {h : mi_H} {k i : Nat} {x : Int64} (hk : k < 55) : mi_Fm h (mi_lw' h k i x) := ⟨mi_lw_len, fun k' hk' => by
  unfold mi_lw'
  split
  next => exact mi_set_ne (by omega)
  next => rfl⟩
theorem mi_St_pF {h : mi_H} {σ : mi_Sg} {k ci j : Nat} (S : mi_St h σ) (hm : (k, ci, j) ∈ mi_tI) (x : Int) : mi_St (mi_pw h k ci j (.int (Int32.ofInt x))) (mi_uF σ k j x) := by
  obtain ⟨s1, s2, s3, s4, s5, s6⟩ := S
  have hv := s1 _ hm
  dsimp only at hv
  refine ⟨fun q hq => ?_, fun q hq => ?_, fun q hq => ?_, fun q hq => ?_, fun q hq => ?_, fun q hq => ?_⟩
  · have hq1 := s1 q hq
    rw [mi_FF]
    by_cases e : q.1 = k ∧ q.2.2 = j
    · rw [if_pos e]
      obtain ⟨a, b, c⟩ := q
      obtain ⟨rfl, rfl⟩ := e
      obtain rfl := mi_fv_ci hv hq1
      exact mi_fv_pw hv
    · rw [if_neg e]
      exact mi_fv_pw_o hv hq1 (by
        by_cases ha : q.1 = k
        · exact Or.inr (fun hb => e ⟨ha, hb⟩)
        · exact Or.inl ha)
  · have hq1 := s2 q hq
    have d := mi_fv_dis hv hq1 (fun e => by cases e)
    rw [mi_FF, if_neg (fun e => d.elim (fun a => a e.1) (fun b => b e.2))]
    exact mi_fv_pw_o hv hq1 d
  · have hq1 := s3 q hq
    exact mi_fv_pw_o hv hq1 (mi_fv_dis hv hq1 (fun e => by cases e))
  · have hq1 := s4 q hq
    exact mi_fv_pw_o hv hq1 (mi_fv_dis hv hq1 (fun e => by cases e))
  · rw [mi_ai_pw]
    exact s5 q hq
  · rw [mi_al_pw]
    exact s6 q hq
theorem mi_St_pV {h : mi_H} {σ : mi_Sg} {k ci j : Nat} (S : mi_St h σ) (hm : (k, ci, j) ∈ mi_tV) (n : Nat) : mi_St (mi_pw h k ci j (.ref n)) (mi_uF σ k j (n : Int)) := by
  obtain ⟨s1, s2, s3, s4, s5, s6⟩ := S
  have hv := s2 _ hm
  dsimp only at hv
  refine ⟨fun q hq => ?_, fun q hq => ?_, fun q hq => ?_, fun q hq => ?_, fun q hq => ?_, fun q hq => ?_⟩
  · have hq1 := s1 q hq
    have d := mi_fv_dis hv hq1 (fun e => by cases e)
    rw [mi_FF, if_neg (fun e => d.elim (fun a => a e.1) (fun b => b e.2))]
    exact mi_fv_pw_o hv hq1 d
  · have hq1 := s2 q hq
    rw [mi_FF]
    by_cases e : q.1 = k ∧ q.2.2 = j
    · rw [if_pos e]
      obtain ⟨a, b, c⟩ := q
      obtain ⟨rfl, rfl⟩ := e
      obtain rfl := mi_fv_ci hv hq1
      exact mi_fv_pw hv
    · rw [if_neg e]
      exact mi_fv_pw_o hv hq1 (by
        by_cases ha : q.1 = k
        · exact Or.inr (fun hb => e ⟨ha, hb⟩)
        · exact Or.inl ha)
  · have hq1 := s3 q hq
    exact mi_fv_pw_o hv hq1 (mi_fv_dis hv hq1 (fun e => by cases e))
  · have hq1 := s4 q hq
    by_cases e : q.1 = k ∧ q.2.2.1 = j
    · exfalso
      have hd := mi_tVR q hq _ hm
      exact hd e
    · exact mi_fv_pw_o hv hq1 (by
        by_cases ha : q.1 = k
        · exact Or.inr (fun hb => e ⟨ha, hb⟩)
        · exact Or.inl ha)
  · rw [mi_ai_pw]
    exact s5 q hq
  · rw [mi_al_pw]
    exact s6 q hq
theorem mi_St_pB {h : mi_H} {σ : mi_Sg} {k ci j : Nat} (S : mi_St h σ) (hm : (k, ci, j) ∈ mi_tJ) (x : Int64) : mi_St (mi_pw h k ci j (.long x)) (mi_uB σ k j x) := by
  obtain ⟨s1, s2, s3, s4, s5, s6⟩ := S
  have hv := s3 _ hm
  dsimp only at hv
  refine ⟨fun q hq => ?_, fun q hq => ?_, fun q hq => ?_, fun q hq => ?_, fun q hq => ?_, fun q hq => ?_⟩
  · have hq1 := s1 q hq
    exact mi_fv_pw_o hv hq1 (mi_fv_dis hv hq1 (fun e => by cases e))
  · have hq1 := s2 q hq
    exact mi_fv_pw_o hv hq1 (mi_fv_dis hv hq1 (fun e => by cases e))
  · have hq1 := s3 q hq
    rw [mi_BB]
    by_cases e : q.1 = k ∧ q.2.2 = j
    · rw [if_pos e]
      obtain ⟨a, b, c⟩ := q
      obtain ⟨rfl, rfl⟩ := e
      obtain rfl := mi_fv_ci hv hq1
      exact mi_fv_pw hv
    · rw [if_neg e]
      exact mi_fv_pw_o hv hq1 (by
        by_cases ha : q.1 = k
        · exact Or.inr (fun hb => e ⟨ha, hb⟩)
        · exact Or.inl ha)
  · have hq1 := s4 q hq
    exact mi_fv_pw_o hv hq1 (mi_fv_dis hv hq1 (fun e => by cases e))
  · rw [mi_ai_pw]
    exact s5 q hq
  · rw [mi_al_pw]
    exact s6 q hq
theorem mi_fv_awS {h : mi_H} {k i : Nat} {x : Int32} {σ : mi_Sg} (S : mi_St h σ) : (∀ q ∈ mi_tI, mi_fv (mi_aw h k i x) q.1 q.2.1 q.2.2 = some (.int (Int32.ofInt (mi_sF σ q.1 q.2.2)))) ∧ (∀ q ∈ mi_tV, mi_fv (mi_aw h k i x) q.1 q.2.1 q.2.2 = some (.ref (mi_sF σ q.1 q.2.2).toNat)) ∧ (∀ q ∈ mi_tJ, mi_fv (mi_aw h k i x) q.1 q.2.1 q.2.2 = some (.long (mi_sB σ q.1 q.2.2))) ∧ (∀ q ∈ mi_tR, mi_fv (mi_aw h k i x) q.1 q.2.1 q.2.2.1 = some (.ref q.2.2.2)) := by
  obtain ⟨s1, s2, s3, s4, -, -⟩ := S
  exact ⟨fun q hq => mi_fv_aw.trans (s1 q hq), fun q hq => mi_fv_aw.trans (s2 q hq), fun q hq => mi_fv_aw.trans (s3 q hq), fun q hq => mi_fv_aw.trans (s4 q hq)⟩
theorem mi_St_pA {h : mi_H} {σ : mi_Sg} {k t n : Nat} (S : mi_St h σ) (hm : (k, t, n) ∈ mi_tA) (i : Nat) (x : Int) : mi_St (mi_aw h k i (Int32.ofInt x)) (mi_uA σ k (i : Int) x) := by
  obtain ⟨f1, f2, f3, f4⟩ := mi_fv_awS (k := k) (i := i) (x := Int32.ofInt x) S
  obtain ⟨-, -, -, -, s5, s6⟩ := S
  have hv := s5 _ hm
  dsimp only at hv
  refine ⟨f1, f2, f3, f4, fun q hq => ?_, fun q hq => ?_⟩
  · have hq1 := s5 q hq
    by_cases e : q.1 = k
    · obtain ⟨a, b, c⟩ := q
      dsimp only at e hq1 ⊢
      subst e
      rw [hv] at hq1
      cases hq1
      rw [mi_ai_aw hv]
      congr 3
      funext m
      rw [mi_AA]
      unfold upd
      by_cases em : m = i
      · rw [if_pos em, if_pos ⟨rfl, by rw [em]⟩]
      · rw [if_neg em, if_neg (fun e => em (Int.ofNat.inj e.2))]
    · rw [mi_ai_aw_k (Ne.symm e), hq1]
      congr 3
      funext m
      rw [mi_AA, if_neg (fun e' => e e'.1)]
  · rw [mi_al_aw]
    exact s6 q hq
theorem mi_St_pE {h : mi_H} {σ : mi_Sg} {k n : Nat} (S : mi_St h σ) (hm : (k, n) ∈ mi_tL) (i : Nat) (x : Int64) : mi_St (mi_lw' h k i x) (mi_uE σ k (i : Int) x) := by
  obtain ⟨s1, s2, s3, s4, s5, s6⟩ := S
  have hv := s6 _ hm
  dsimp only at hv
  refine ⟨fun q hq => mi_fv_lw.trans (s1 q hq), fun q hq => mi_fv_lw.trans (s2 q hq), fun q hq => mi_fv_lw.trans (s3 q hq), fun q hq => mi_fv_lw.trans (s4 q hq), fun q hq => mi_ai_lw.trans (s5 q hq), fun q hq => ?_⟩
  have hq1 := s6 q hq
  by_cases e : q.1 = k
  · obtain ⟨a, b⟩ := q
    dsimp only at e hq1 ⊢
    subst e
    rw [hv] at hq1
    cases hq1
    rw [mi_al_lw hv]
    congr 2
    funext m
    rw [mi_EE]
    unfold vp_updL
    by_cases em : m = i
    · rw [if_pos em, if_pos ⟨rfl, by rw [em]⟩]
    · rw [if_neg em, if_neg (fun e => em (Int.ofNat.inj e.2))]
  · rw [mi_al_lw_k (Ne.symm e), hq1]
    congr 2
    funext m
    rw [mi_EE, if_neg (fun e' => e e'.1)]
/-! ===== ints by their numbers ===== -/
def mi_R (e : Int) : Prop := -2147483648 ≤ e ∧ e < 2147483648
theorem mi_tI_of {e : Int} (h : mi_R e) : (Int32.ofInt e).toInt = e := by
  rw [Int32.toInt_ofInt]
  unfold mi_R at h
  rw [Int.bmod_def]
  simp only [Int32.size]
  omega
theorem mi_nat_of {e : Int} (h : mi_R e) : (Int32.ofInt e).toNatClampNeg = e.toNat := by
  unfold Int32.toNatClampNeg
  rw [mi_tI_of h]
theorem mi_inb_i {e : Int} {n : Nat} (h0 : 0 ≤ e) (h1 : e < (n : Int)) (hn : n ≤ 100000) : mi_inb (Int32.ofInt e) n = true := by
  have hr : mi_R e := ⟨by omega, by omega⟩
  unfold mi_inb
  rw [mi_tI_of hr]
  simp [h0, h1]
def mi_ci : ClassFile.Cond → Int → Int → Prop
  | .eq, a, b => a = b
  | .ne, a, b => a ≠ b
  | .lt, a, b => a < b
  | .ge, a, b => b ≤ a
  | .gt, a, b => b < a
  | .le, a, b => a ≤ b
theorem mi_ci_t {k : ClassFile.Cond} {a b : Int} (ha : mi_R a) (hb : mi_R b) (h : mi_ci k a b) : mi_cc k (Int32.ofInt a) (Int32.ofInt b) = true := by
  cases k <;> simp only [mi_ci, mi_cc, decide_eq_true_eq, Bool.not_eq_true', decide_eq_false_iff_not] at h ⊢
  · rw [h]
  · intro e
    exact h (by rw [← mi_tI_of ha, ← mi_tI_of hb, e])
  · rw [Int32.lt_iff_toInt_lt, mi_tI_of ha, mi_tI_of hb]; exact h
  · rw [Int32.le_iff_toInt_le, mi_tI_of ha, mi_tI_of hb]; exact h
  · rw [Int32.lt_iff_toInt_lt, mi_tI_of ha, mi_tI_of hb]; exact h
  · rw [Int32.le_iff_toInt_le, mi_tI_of ha, mi_tI_of hb]; exact h
theorem mi_ci_f {k : ClassFile.Cond} {a b : Int} (ha : mi_R a) (hb : mi_R b) (h : ¬ mi_ci k a b) : mi_cc k (Int32.ofInt a) (Int32.ofInt b) = false := by
  cases k <;> simp only [mi_ci, mi_cc, decide_eq_false_iff_not, Bool.not_eq_false', decide_eq_true_eq] at h ⊢
  · intro e
    exact h (by rw [← mi_tI_of ha, ← mi_tI_of hb, e])
  · have h' : a = b := Decidable.of_not_not h
    rw [h']
  · rw [Int32.lt_iff_toInt_lt, mi_tI_of ha, mi_tI_of hb]; exact h
  · rw [Int32.le_iff_toInt_le, mi_tI_of ha, mi_tI_of hb]; exact h
  · rw [Int32.lt_iff_toInt_lt, mi_tI_of ha, mi_tI_of hb]; exact h
  · rw [Int32.le_iff_toInt_le, mi_tI_of ha, mi_tI_of hb]; exact h
theorem mi_R_0 : mi_R 0 := ⟨by decide, by decide⟩
theorem mi_z0 : (0 : Int32) = Int32.ofInt 0 := by decide
/-! ===== contracts ===== -/
/-- from cells that hold σ the method returns, makes nothing, leaves the cells of others, and P holds of what it returns and of what the cells hold then -/
def mi_C (X : mi_X) (d : Nat) (M : mi_M) (l : mi_L) (σ : mi_Sg) (P : Option Value → mi_Sg → Prop) : Prop := ∀ h, mi_St h σ → mi_wp X d M 0 l [] h 0 0 (fun z => ∃ v h' σ', z = (.inl v, h', 0, 0) ∧ mi_St h' σ' ∧ mi_Fm h h' ∧ P v σ')
section MSS
variable {X : mi_X} {d : Nat} {M M' : mi_M} {pc pc' len c s k ci j idx t n : Nat} {i : Instr} {l l' : mi_L} {st args rest r : List Value} {h : mi_H} {Q : mi_Z → Prop} {σ σ' : mi_Sg} {a b x e : Int}
theorem mi_s_call (ht : mi_lk (mi_th M) pc = none) (hi : mi_lk (mi_cd M) pc = some (i, 3)) (hp : mi_pure (mi_nL M) 3 i pc l st = none) (hv : mi_ret M i st = none) (hm : (if 3 = mi_ml2 i then mi_mem X M i pc st h 0 0 else none) = none) (he : mi_easy M i st = none) (hcal : mi_cal M i st h = some (M', args, rest)) (hcat : mi_cat args ≤ mi_nL M') (S : mi_St h σ) {P : Option Value → mi_Sg → Prop} (hC : mi_C X d M' (lv_args 0 args) σ P)
    (kk : ∀ v h' σ', mi_St h' σ' → mi_Fm h h' → P v σ' → mi_wp X (d + 1) M (pc + 3) l (v.toList ++ rest) h' 0 0 Q) : mi_wp X (d + 1) M pc l st h 0 0 Q :=
  mi_wp_c ht hi hp hv hm he hcal hcat (hC h S) (fun v h' c' s' ⟨v', h2, σ', e, g1, g2, g3⟩ => by cases e; exact kk _ _ _ g1 g2 g3) (fun x h' c' s' ⟨v', h2, σ', e, _⟩ => by cases e)
theorem mi_s_if1 {kd : ClassFile.Cond} {off : Int} (ht : mi_lk (mi_th M) pc = none) (hi : mi_lk (mi_cd M) pc = some (.ifCond kd off, 3)) (hj : mi_jmp pc off = some t) (ra : mi_R a) (kt : mi_ci kd a 0 → mi_wp X d M t l r h c s Q) (kf : ¬ mi_ci kd a 0 → mi_wp X d M (pc + 3) l r h c s Q) : mi_wp X d M pc l (.int (Int32.ofInt a) :: r) h c s Q := by
  by_cases hc : mi_ci kd a 0
  · exact mi_wp_p ht hi (mi_br1 (b := true) (by rw [mi_z0]; exact mi_ci_t ra mi_R_0 hc) hj) (kt hc)
  · exact mi_wp_p ht hi (mi_br1 (b := false) (by rw [mi_z0]; exact mi_ci_f ra mi_R_0 hc) hj) (kf hc)
theorem mi_s_if2 {kd : ClassFile.Cond} {off : Int} (ht : mi_lk (mi_th M) pc = none) (hi : mi_lk (mi_cd M) pc = some (.if_icmp kd off, 3)) (hj : mi_jmp pc off = some t) (ra : mi_R a) (rb : mi_R b) (kt : mi_ci kd a b → mi_wp X d M t l r h c s Q) (kf : ¬ mi_ci kd a b → mi_wp X d M (pc + 3) l r h c s Q) : mi_wp X d M pc l (.int (Int32.ofInt b) :: .int (Int32.ofInt a) :: r) h c s Q := by
  by_cases hc : mi_ci kd a b
  · exact mi_wp_p ht hi (mi_br2 (b := true) (mi_ci_t ra rb hc) hj) (kt hc)
  · exact mi_wp_p ht hi (mi_br2 (b := false) (mi_ci_f ra rb hc) hj) (kf hc)
theorem mi_s_add (ht : mi_lk (mi_th M) pc = none) (hi : mi_lk (mi_cd M) pc = some (.iadd, 1)) (kk : mi_wp X d M (pc + 1) l (.int (Int32.ofInt (a + b)) :: r) h c s Q) : mi_wp X d M pc l (.int (Int32.ofInt b) :: .int (Int32.ofInt a) :: r) h c s Q :=
  mi_wp_p (pc' := pc + 1) (l' := l) (st' := .int (Int32.ofInt (a + b)) :: r) ht hi (by rw [Int32.ofInt_add]; rfl) kk
theorem mi_s_sub (ht : mi_lk (mi_th M) pc = none) (hi : mi_lk (mi_cd M) pc = some (.isub, 1)) (kk : mi_wp X d M (pc + 1) l (.int (Int32.ofInt (a - b)) :: r) h c s Q) : mi_wp X d M pc l (.int (Int32.ofInt b) :: .int (Int32.ofInt a) :: r) h c s Q :=
  mi_wp_p (pc' := pc + 1) (l' := l) (st' := .int (Int32.ofInt (a - b)) :: r) ht hi (by rw [Int32.ofInt_sub]; rfl) kk
theorem mi_s_mul (ht : mi_lk (mi_th M) pc = none) (hi : mi_lk (mi_cd M) pc = some (.imul, 1)) (kk : mi_wp X d M (pc + 1) l (.int (Int32.ofInt (a * b)) :: r) h c s Q) : mi_wp X d M pc l (.int (Int32.ofInt b) :: .int (Int32.ofInt a) :: r) h c s Q :=
  mi_wp_p (pc' := pc + 1) (l' := l) (st' := .int (Int32.ofInt (a * b)) :: r) ht hi (by rw [Int32.ofInt_mul]; rfl) kk
theorem mi_s_inc {q : Nat} {m : Int} (ht : mi_lk (mi_th M) pc = none) (hi : mi_lk (mi_cd M) pc = some (.iinc q m, 3)) (hl : mi_look l q = some (.int (Int32.ofInt a))) (hq : q < mi_nL M) (hl' : mi_s1 l q (.int (Int32.ofInt (a + m))) = l') (kk : mi_wp X d M (pc + 3) l' st h c s Q) : mi_wp X d M pc l st h c s Q := by
  refine mi_wp_p (pc' := pc + 3) (l' := l') (st' := st) ht hi ?_ kk
  show mi_iinc (mi_nL M) q m (pc + 3) l st = _
  unfold mi_iinc
  rw [hl, ← hl', Int32.ofInt_add]
  exact if_pos hq
/-- a constant, by its number -/
theorem mi_s_k {y : Int32} (ht : mi_lk (mi_th M) pc = none) (hi : mi_lk (mi_cd M) pc = some (i, len)) (hp : mi_pure (mi_nL M) len i pc l st = some (pc', l, .int y :: st)) (hy : y = Int32.ofInt e) (kk : mi_wp X d M pc' l (.int (Int32.ofInt e) :: st) h c s Q) : mi_wp X d M pc l st h c s Q := by
  subst hy
  exact mi_wp_p ht hi hp kk
theorem mi_s_ldc {y : Int32} (ht : mi_lk (mi_th M) pc = none) (hi : mi_lk (mi_cd M) pc = some (.ldc idx, 2)) (hp : mi_lk (mi_il (mi_ow M)) idx = some y) (hy : y = Int32.ofInt e) (kk : mi_wp X d M (pc + 2) l (.int (Int32.ofInt e) :: st) h c s Q) : mi_wp X d M pc l st h c s Q := by
  subst hy
  refine mi_wp_m ht hi rfl (by unfold mi_ret; rfl) rfl ?_ kk
  show mi_ldc (mi_ow M) idx (pc + 2) st h c s = _
  unfold mi_ldc
  simp only [hp]
/-- another name of the number on top -/
theorem mi_s_top (he : a = b) (kk : mi_wp X d M pc l (.int (Int32.ofInt b) :: r) h c s Q) : mi_wp X d M pc l (.int (Int32.ofInt a) :: r) h c s Q := by rw [he]; exact kk
theorem mi_s_gf (S : mi_St h σ) (ht : mi_lk (mi_th M) pc = none) (hi : mi_lk (mi_cd M) pc = some (.getfield idx, 3)) (hx : mi_lk (mi_fl (mi_ow M)) idx = some (ci, j)) (hm : (k, ci, j) ∈ mi_tI) (hv : mi_sF σ k j = x) (kk : mi_wp X d M (pc + 3) l (.int (Int32.ofInt x) :: r) h c s Q) : mi_wp X d M pc l (.ref k :: r) h c s Q := by
  subst hv
  exact mi_wp_gf ht hi hx (S.1 _ hm) kk
theorem mi_s_gr {q : Nat} (S : mi_St h σ) (ht : mi_lk (mi_th M) pc = none) (hi : mi_lk (mi_cd M) pc = some (.getfield idx, 3)) (hx : mi_lk (mi_fl (mi_ow M)) idx = some (ci, j)) (hm : (k, ci, j, q) ∈ mi_tR) (kk : mi_wp X d M (pc + 3) l (.ref q :: r) h c s Q) : mi_wp X d M pc l (.ref k :: r) h c s Q := mi_wp_gf ht hi hx (S.2.2.2.1 _ hm) kk
theorem mi_s_gv {q : Nat} (S : mi_St h σ) (ht : mi_lk (mi_th M) pc = none) (hi : mi_lk (mi_cd M) pc = some (.getfield idx, 3)) (hx : mi_lk (mi_fl (mi_ow M)) idx = some (ci, j)) (hm : (k, ci, j) ∈ mi_tV) (hv : mi_sF σ k j = (q : Int)) (kk : mi_wp X d M (pc + 3) l (.ref q :: r) h c s Q) : mi_wp X d M pc l (.ref k :: r) h c s Q := mi_wp_gf ht hi hx (by rw [S.2.1 _ hm]; dsimp only; rw [hv]; rfl) kk
theorem mi_s_gj {x : Int64} (S : mi_St h σ) (ht : mi_lk (mi_th M) pc = none) (hi : mi_lk (mi_cd M) pc = some (.getfield idx, 3)) (hx : mi_lk (mi_fl (mi_ow M)) idx = some (ci, j)) (hm : (k, ci, j) ∈ mi_tJ) (hv : mi_sB σ k j = x) (kk : mi_wp X d M (pc + 3) l (.long x :: r) h c s Q) : mi_wp X d M pc l (.ref k :: r) h c s Q := by
  subst hv
  exact mi_wp_gf ht hi hx (S.2.2.1 _ hm) kk
theorem mi_s_pf (S : mi_St h σ) (ht : mi_lk (mi_th M) pc = none) (hi : mi_lk (mi_cd M) pc = some (.putfield idx, 3)) (hx : mi_lk (mi_fl (mi_ow M)) idx = some (ci, j)) (hm : (k, ci, j) ∈ mi_tI) (hk : k < 55) (hf : mi_fit (mi_ty ci j) (.int (Int32.ofInt x)) = true) (hn : mi_fin ci j = false ∨ (mi_kd M = 2 ∧ mi_ow M = ci)) (kk : ∀ h', mi_St h' (mi_uF σ k j x) → mi_Fm h h' → mi_wp X d M (pc + 3) l r h' c s Q) : mi_wp X d M pc l (.int (Int32.ofInt x) :: .ref k :: r) h c s Q :=
  mi_wp_pf ht hi hx (S.1 _ hm) hf hn (kk _ (mi_St_pF S hm x) (mi_Fm_pw hk))
theorem mi_s_pv {q : Nat} (S : mi_St h σ) (ht : mi_lk (mi_th M) pc = none) (hi : mi_lk (mi_cd M) pc = some (.putfield idx, 3)) (hx : mi_lk (mi_fl (mi_ow M)) idx = some (ci, j)) (hm : (k, ci, j) ∈ mi_tV) (hk : k < 55) (hf : mi_fit (mi_ty ci j) (.ref q) = true) (hn : mi_fin ci j = false ∨ (mi_kd M = 2 ∧ mi_ow M = ci)) (kk : ∀ h', mi_St h' (mi_uF σ k j (q : Int)) → mi_Fm h h' → mi_wp X d M (pc + 3) l r h' c s Q) : mi_wp X d M pc l (.ref q :: .ref k :: r) h c s Q :=
  mi_wp_pf ht hi hx (S.2.1 _ hm) hf hn (kk _ (mi_St_pV S hm q) (mi_Fm_pw hk))
theorem mi_s_pj {x : Int64} (S : mi_St h σ) (ht : mi_lk (mi_th M) pc = none) (hi : mi_lk (mi_cd M) pc = some (.putfield idx, 3)) (hx : mi_lk (mi_fl (mi_ow M)) idx = some (ci, j)) (hm : (k, ci, j) ∈ mi_tJ) (hk : k < 55) (hf : mi_fit (mi_ty ci j) (.long x) = true) (hn : mi_fin ci j = false ∨ (mi_kd M = 2 ∧ mi_ow M = ci)) (kk : ∀ h', mi_St h' (mi_uB σ k j x) → mi_Fm h h' → mi_wp X d M (pc + 3) l r h' c s Q) : mi_wp X d M pc l (.long x :: .ref k :: r) h c s Q :=
  mi_wp_pf ht hi hx (S.2.2.1 _ hm) hf hn (kk _ (mi_St_pB S hm x) (mi_Fm_pw hk))
theorem mi_toN (h0 : 0 ≤ e) (h1 : e < (n : Int)) (hn : n ≤ 100000) : (Int32.ofInt e).toNatClampNeg = e.toNat ∧ ((e.toNat : Nat) : Int) = e := by
  refine ⟨mi_nat_of ⟨by omega, by omega⟩, by omega⟩
theorem mi_s_ald (S : mi_St h σ) (ht : mi_lk (mi_th M) pc = none) (hi : mi_lk (mi_cd M) pc = some (.iaload, 1)) (hm : (k, 0, n) ∈ mi_tA) (hn : n ≤ 100000) (h0 : 0 ≤ e) (h1 : e < (n : Int)) (hv : mi_sA σ k e = x) (kk : mi_wp X d M (pc + 1) l (.int (Int32.ofInt x) :: r) h c s Q) : mi_wp X d M pc l (.int (Int32.ofInt e) :: .ref k :: r) h c s Q := by
  subst hv
  refine mi_wp_ials ht hi (S.2.2.2.2.1 _ hm) (mi_inb_i h0 h1 hn) ?_
  obtain ⟨g1, g2⟩ := mi_toN h0 h1 hn
  dsimp only
  rw [g1, g2]
  exact kk
theorem mi_s_ast (S : mi_St h σ) (ht : mi_lk (mi_th M) pc = none) (hi : mi_lk (mi_cd M) pc = some (.iastore, 1)) (hm : (k, 0, n) ∈ mi_tA) (hk : k < 55) (hn : n ≤ 100000) (h0 : 0 ≤ e) (h1 : e < (n : Int)) (kk : ∀ h', mi_St h' (mi_uA σ k e x) → mi_Fm h h' → mi_wp X d M (pc + 1) l r h' c s Q) : mi_wp X d M pc l (.int (Int32.ofInt x) :: .int (Int32.ofInt e) :: .ref k :: r) h c s Q := by
  obtain ⟨g1, g2⟩ := mi_toN h0 h1 hn
  refine mi_wp_ias ht hi (S.2.2.2.2.1 _ hm) (mi_inb_i h0 h1 hn) ?_
  have S' := mi_St_pA S hm e.toNat x
  rw [g2] at S'
  rw [g1]
  exact kk _ S' (mi_Fm_aw hk)
theorem mi_s_lld {x : Int64} (S : mi_St h σ) (ht : mi_lk (mi_th M) pc = none) (hi : mi_lk (mi_cd M) pc = some (.laload, 1)) (hm : (k, n) ∈ mi_tL) (hn : n ≤ 100000) (h0 : 0 ≤ e) (h1 : e < (n : Int)) (hv : mi_sE σ k e = x) (kk : mi_wp X d M (pc + 1) l (.long x :: r) h c s Q) : mi_wp X d M pc l (.int (Int32.ofInt e) :: .ref k :: r) h c s Q := by
  subst hv
  refine mi_wp_lald ht hi (S.2.2.2.2.2 _ hm) (mi_inb_i h0 h1 hn) ?_
  obtain ⟨g1, g2⟩ := mi_toN h0 h1 hn
  dsimp only
  rw [g1, g2]
  exact kk
theorem mi_s_lst {x : Int64} (S : mi_St h σ) (ht : mi_lk (mi_th M) pc = none) (hi : mi_lk (mi_cd M) pc = some (.lastore, 1)) (hm : (k, n) ∈ mi_tL) (hk : k < 55) (hn : n ≤ 100000) (h0 : 0 ≤ e) (h1 : e < (n : Int)) (kk : ∀ h', mi_St h' (mi_uE σ k e x) → mi_Fm h h' → mi_wp X d M (pc + 1) l r h' c s Q) : mi_wp X d M pc l (.long x :: .int (Int32.ofInt e) :: .ref k :: r) h c s Q := by
  obtain ⟨g1, g2⟩ := mi_toN h0 h1 hn
  refine mi_wp_las ht hi (S.2.2.2.2.2 _ hm) (mi_inb_i h0 h1 hn) ?_
  have S' := mi_St_pE S hm e.toNat x
  rw [g2] at S'
  rw [g1]
  exact kk _ S' (mi_Fm_lw hk)
/-- the end of a method -/
theorem mi_s_ret {v : Option Value} {h0 : mi_H} {P : Option Value → mi_Sg → Prop} (S : mi_St h σ) (fr : mi_Fm h0 h) (ht : mi_lk (mi_th M) pc = none) (hi : mi_lk (mi_cd M) pc = some (i, 1)) (hp : mi_pure (mi_nL M) 1 i pc l st = none) (hv : mi_ret M i st = some v) (hP : P v σ) : mi_wp X d M pc l st h 0 0 (fun z => ∃ v h' σ', z = (.inl v, h', 0, 0) ∧ mi_St h' σ' ∧ mi_Fm h0 h' ∧ P v σ') := mi_wp_r ht hi hp hv ⟨v, h, σ, rfl, S, fr, hP⟩
/-- the receiver of a call -/
theorem mi_rcS (S : mi_St h σ) (hm : (k, ci, j) ∈ mi_tI) : mi_rc h (.ref k) ci = true := mi_rc_of (S.1 _ hm)
theorem mi_rcR {q : Nat} (S : mi_St h σ) (hm : (k, ci, j, q) ∈ mi_tR) : mi_rc h (.ref k) ci = true := mi_rc_of (S.2.2.2.1 _ hm)
end MSS
theorem mi_ret_i {M : mi_M} {v : Int32} (hr : mi_rt M = some .int) : mi_ret M .ireturn [.int v] = some (some (.int v)) := by
  unfold mi_ret
  simp [hr, narrow]
def mi_Ci (X : mi_X) (d : Nat) (M : mi_M) (l : mi_L) (σ : mi_Sg) (P : Int → mi_Sg → Prop) : Prop := mi_C X d M l σ (fun v σ' => ∃ x, v = some (.int (Int32.ofInt x)) ∧ P x σ')
def mi_Cj (X : mi_X) (d : Nat) (M : mi_M) (l : mi_L) (σ : mi_Sg) (P : Int64 → mi_Sg → Prop) : Prop := mi_C X d M l σ (fun v σ' => ∃ x, v = some (.long x) ∧ P x σ')
def mi_Cv (X : mi_X) (d : Nat) (M : mi_M) (l : mi_L) (σ : mi_Sg) (P : mi_Sg → Prop) : Prop := mi_C X d M l σ (fun v σ' => v = none ∧ P σ')
section MSC
variable {X : mi_X} {d : Nat} {M M' : mi_M} {pc k ci j idx m np : Nat} {l : mi_L} {st args rest : List Value} {h : mi_H} {Q : mi_Z → Prop} {σ : mi_Sg} {i : Instr}
theorem mi_cal_v2 (hi : i = .invokevirtual idx) (hl : mi_lk (mi_ml (mi_ow M)) idx = some m) (hm : mi_mt[m]? = some M') (hk : mi_kd M' = 1) (hn : mi_np M' = np) (hlen : np < st.length) (ha : (st.take (np + 1)).reverse = args) (hr : st.drop (np + 1) = rest) (hc : mi_cat rest ≤ 8) (hrc : mi_rc h (st.getD np .null) (mi_ow M') = true) : mi_cal M i st h = some (M', args, rest) := by
  subst hi ha hr
  exact mi_cal_v hl hm hk hn hlen hc hrc
theorem mi_cal_s2 (hi : i = .invokestatic idx) (hl : mi_lk (mi_ml (mi_ow M)) idx = some m) (hm : mi_mt[m]? = some M') (hk : mi_kd M' = 0 ∨ mi_kd M' = 3) (hn : mi_np M' = np) (hlen : np ≤ st.length) (ha : (st.take np).reverse = args) (hr : st.drop np = rest) (hc : mi_cat rest ≤ 8) : mi_cal M i st h = some (M', args, rest) := by
  subst hi ha hr
  exact mi_cal_s hl hm hk hn hlen hc
theorem mi_s_ci (ht : mi_lk (mi_th M) pc = none) (hi : mi_lk (mi_cd M) pc = some (i, 3)) (hp : mi_pure (mi_nL M) 3 i pc l st = none) (hv : mi_ret M i st = none) (hm : (if 3 = mi_ml2 i then mi_mem X M i pc st h 0 0 else none) = none) (he : mi_easy M i st = none) (hcal : mi_cal M i st h = some (M', args, rest)) (hcat : mi_cat args ≤ mi_nL M') (S : mi_St h σ) {P : Int → mi_Sg → Prop} (hC : mi_Ci X d M' (lv_args 0 args) σ P)
    (kk : ∀ x h' σ', mi_St h' σ' → mi_Fm h h' → P x σ' → mi_wp X (d + 1) M (pc + 3) l (.int (Int32.ofInt x) :: rest) h' 0 0 Q) : mi_wp X (d + 1) M pc l st h 0 0 Q :=
  mi_s_call ht hi hp hv hm he hcal hcat S hC (fun v h' σ' g1 g2 ⟨x, e, g3⟩ => by subst e; exact kk x h' σ' g1 g2 g3)
theorem mi_s_cj (ht : mi_lk (mi_th M) pc = none) (hi : mi_lk (mi_cd M) pc = some (i, 3)) (hp : mi_pure (mi_nL M) 3 i pc l st = none) (hv : mi_ret M i st = none) (hm : (if 3 = mi_ml2 i then mi_mem X M i pc st h 0 0 else none) = none) (he : mi_easy M i st = none) (hcal : mi_cal M i st h = some (M', args, rest)) (hcat : mi_cat args ≤ mi_nL M') (S : mi_St h σ) {P : Int64 → mi_Sg → Prop} (hC : mi_Cj X d M' (lv_args 0 args) σ P)
    (kk : ∀ x h' σ', mi_St h' σ' → mi_Fm h h' → P x σ' → mi_wp X (d + 1) M (pc + 3) l (.long x :: rest) h' 0 0 Q) : mi_wp X (d + 1) M pc l st h 0 0 Q :=
  mi_s_call ht hi hp hv hm he hcal hcat S hC (fun v h' σ' g1 g2 ⟨x, e, g3⟩ => by subst e; exact kk x h' σ' g1 g2 g3)
theorem mi_s_cv (ht : mi_lk (mi_th M) pc = none) (hi : mi_lk (mi_cd M) pc = some (i, 3)) (hp : mi_pure (mi_nL M) 3 i pc l st = none) (hv : mi_ret M i st = none) (hm : (if 3 = mi_ml2 i then mi_mem X M i pc st h 0 0 else none) = none) (he : mi_easy M i st = none) (hcal : mi_cal M i st h = some (M', args, rest)) (hcat : mi_cat args ≤ mi_nL M') (S : mi_St h σ) {P : mi_Sg → Prop} (hC : mi_Cv X d M' (lv_args 0 args) σ P)
    (kk : ∀ h' σ', mi_St h' σ' → mi_Fm h h' → P σ' → mi_wp X (d + 1) M (pc + 3) l rest h' 0 0 Q) : mi_wp X (d + 1) M pc l st h 0 0 Q :=
  mi_s_call ht hi hp hv hm he hcal hcat S hC (fun v h' σ' g1 g2 ⟨e, g3⟩ => by subst e; exact kk h' σ' g1 g2 g3)
/-- a comparison of longs and the branch behind it -/
theorem mi_s_lne {t : Nat} {off : Int} {x y : Int64} {c s : Nat} (ht : mi_lk (mi_th M) pc = none) (hi : mi_lk (mi_cd M) pc = some (.lcmp, 1)) (ht2 : mi_lk (mi_th M) (pc + 1) = none) (hi2 : mi_lk (mi_cd M) (pc + 1) = some (.ifCond .ne off, 3)) (hj : mi_jmp (pc + 1) off = some t) (kt : x ≠ y → mi_wp X d M t l st h c s Q) (kf : x = y → mi_wp X d M (pc + 1 + 3) l st h c s Q) : mi_wp X d M pc l (.long y :: .long x :: st) h c s Q := by
  refine mi_wp_p (pc' := pc + 1) (l' := l) (st' := .int (lg_cmp x y) :: st) ht hi rfl ?_
  by_cases hc : x = y
  · refine mi_wp_p ht2 hi2 (mi_br1 (b := false) ?_ hj) (kf hc)
    subst hc
    show (!decide (lg_cmp x x = 0)) = false
    simp [lg_cmp]
  · refine mi_wp_p ht2 hi2 (mi_br1 (b := true) ?_ hj) (kt hc)
    show (!decide (lg_cmp x y = 0)) = true
    simp [lg_cmp, hc]
    split <;> simp_all
end MSC
