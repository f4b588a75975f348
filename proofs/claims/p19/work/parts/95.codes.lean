/-! ===== texts as rows of token codes ===== -/
def tokB (c : Nat) : List Int := [[100, 101, 102], [100, 48], [100, 49], [100, 50], [101], [105], [117], [119], [118], [120], [108, 101, 116], [105, 110], [102, 117, 110], [105, 110, 116], [98, 111, 111, 108], [108, 105, 115, 116], [40], [41], [44], [59], [58], [61], [42], [45, 62], [39, 97], [39, 98], [39, 99], [39, 100], [39, 101], [39, 102]].getD c []
def tokK (c : Nat) : Int := [1, 13, 13, 13, 13, 13, 13, 13, 13, 13, 2, 3, 4, 13, 13, 13, 40, 41, 44, 59, 58, 61, 42, 17, 15, 15, 15, 15, 15, 15].getD c 0
def tokY (c : Nat) : Int64 := [6579558, 25648, 25649, 25650, 101, 105, 117, 119, 118, 120, 7103860, 26990, 6714734, 6909556, 1651470188, 1818850164, 0, 0, 0, 0, 0, 0, 0, 0, 97, 98, 99, 100, 101, 102].getD c 0
/-- the keywords' keys -/
def kwl : List Int64 := [1954115685, 6579558, 7103860, 26990, 6714734, 26982, 1952998766, 1701606245, 1667330917, 28518, 6647396, 1953658213, 439721161573]
def KW (σ : mi_Sg) : Prop := ∀ j : Nat, j < 13 → mi_sE σ 4 (j : Int) = kwl.getD j 0
theorem kw_idx {σ : mi_Sg} (H : KW σ) {key : Int64} {x : Int} (P : kw_P σ key x) : x = (kwl.idxOf key : Nat) := by
  rcases P with ⟨⟨x0, x1⟩, e, -⟩ | ⟨e, no⟩
  · obtain ⟨n, rfl⟩ : ∃ n : Nat, x = n := ⟨x.toNat, by omega⟩
    have hn : n < 13 := by omega
    rw [H n hn] at e
    subst e
    have key : ∀ m : Fin 13, (m.val : Int) = (kwl.idxOf (kwl.getD m.val 0) : Nat) := by decide +kernel
    exact key ⟨n, hn⟩
  · have : key ∉ kwl := fun q => by
      obtain ⟨j, hj, e'⟩ := List.mem_iff_getElem.mp q
      have h13 : kwl.length = 13 := rfl
      have := no (j : Int) (by omega) (by omega)
      rw [H j (by omega), show kwl.getD j 0 = kwl[j] by show (kwl[j]?).getD 0 = _; rw [List.getElem?_eq_getElem hj]; rfl] at this
      exact this e'
    rw [e, List.idxOf_eq_length this]
    rfl
theorem tok_word : ∀ c : Fin 16, ((tokB c.val).zipIdx.all (fun q => (decide (97 ≤ q.1) && decide (q.1 ≤ 122)) || (decide (0 < q.2) && (decide (48 ≤ q.1) && decide (q.1 ≤ 57))))) = true ∧ (tokB c.val).length ≤ 8 ∧ ((kwl.idxOf (kwd (tokB c.val)) : Nat) : Int) = tokK c.val ∧ kwd (tokB c.val) = tokY c.val := by decide +kernel
theorem tok_all : ∀ c : Fin 30, 0 < (tokB c.val).length ∧ (0 ≤ tokK c.val ∧ tokK c.val ≤ 100 ∧ tokK c.val ≠ 18 ∧ tokK c.val ≠ 19) ∧ ((tokB c.val).all fun b => decide (0 ≤ b) && decide (b < 128)) = true := by decide +kernel
theorem tok_fb {c : Nat} (h : 16 ≤ c) (h' : c < 30) : ∃ b, (tokB c)[0]? = some b ∧ ¬ (97 ≤ b ∧ b ≤ 122) ∧ ¬ (48 ≤ b ∧ b ≤ 57) := by
  obtain rfl | rfl | rfl | rfl | rfl | rfl | rfl | rfl | rfl | rfl | rfl | rfl | rfl | rfl : c = 16 ∨ c = 17 ∨ c = 18 ∨ c = 19 ∨ c = 20 ∨ c = 21 ∨ c = 22 ∨ c = 23 ∨ c = 24 ∨ c = 25 ∨ c = 26 ∨ c = 27 ∨ c = 28 ∨ c = 29 := by omega
  all_goals exact ⟨_, rfl, by decide, by decide⟩
theorem tok_sym {c : Nat} (h : 16 ≤ c) (h' : c < 30) : (∃ b, tokB c = [39, b] ∧ (97 ≤ b ∧ b ≤ 122) ∧ tokK c = 15 ∧ tokY c = (Int32.ofInt b).toInt64) ∨ (tokB c = [45, 62] ∧ tokK c = 17 ∧ tokY c = 0) ∨ (∃ d, (d = 40 ∨ d = 41 ∨ d = 44 ∨ d = 59 ∨ d = 58 ∨ d = 61 ∨ d = 42) ∧ tokB c = [d] ∧ tokK c = d ∧ tokY c = 0) := by
  obtain rfl | rfl | rfl | rfl | rfl | rfl | rfl | rfl | rfl | rfl | rfl | rfl | rfl | rfl : c = 16 ∨ c = 17 ∨ c = 18 ∨ c = 19 ∨ c = 20 ∨ c = 21 ∨ c = 22 ∨ c = 23 ∨ c = 24 ∨ c = 25 ∨ c = 26 ∨ c = 27 ∨ c = 28 ∨ c = 29 := by omega
  all_goals first
    | exact Or.inr (Or.inr ⟨_, by decide, rfl, rfl, rfl⟩)
    | exact Or.inr (Or.inl ⟨rfl, rfl, rfl⟩)
    | exact Or.inl ⟨_, rfl, by decide, rfl, by decide +kernel⟩
theorem all_zip {bs : List Int} (h : (bs.zipIdx.all (fun q => (decide (97 ≤ q.1) && decide (q.1 ≤ 122)) || (decide (0 < q.2) && (decide (48 ≤ q.1) && decide (q.1 ≤ 57))))) = true) : ∀ (i : Nat) (b : Int), bs[i]? = some b → sm b ∨ (0 < i ∧ dg b) := fun i b hb => by
  have := List.all_eq_true.mp h (b, i) (by
    rw [List.mem_zipIdx_iff_getElem?]
    exact hb)
  simp only [Bool.or_eq_true, Bool.and_eq_true, decide_eq_true_eq] at this
  exact this
/-- the bytes of a row of codes, each behind its blanks -/
def flc : List (Nat × Nat) → List Int
  | [] => []
  | (bl, c) :: r => List.replicate bl 32 ++ (tokB c ++ flc r)
def itc (q : Nat × Nat) : Nat × List Int × Int × Int64 := (q.1, tokB q.2, tokK q.2, tokY q.2)
/-- words stand apart -/
def okc : List (Nat × Nat) → Prop
  | [] => True
  | [x] => x.2 < 30
  | x :: y :: r => x.2 < 30 ∧ (x.2 < 16 → 0 < y.1 ∨ 16 ≤ y.2) ∧ okc (y :: r)
theorem okc_30 {x : Nat × Nat} {r : List (Nat × Nat)} (h : okc (x :: r)) : x.2 < 30 := by
  cases r with
  | nil => exact h
  | cons y r => exact h.1
theorem okc_t {x : Nat × Nat} {r : List (Nat × Nat)} (h : okc (x :: r)) : okc r := by
  cases r with
  | nil => exact True.intro
  | cons y r => exact h.2.2
/-- the row begins with a blank or a symbol -/
def okh (l : List (Nat × Nat)) : Prop := ∀ y r, l = y :: r → 0 < y.1 ∨ 16 ≤ y.2
theorem okc_sym {x : Nat × Nat} {r : List (Nat × Nat)} (h : 16 ≤ x.2) (h' : x.2 < 30) (g : okc r) : okc (x :: r) := by
  cases r with
  | nil => exact h'
  | cons y r => exact ⟨h', fun q => by omega, g⟩
theorem okc_cons {x : Nat × Nat} {r : List (Nat × Nat)} (h : x.2 < 30) (g : okc r) (hd : okh r) : okc (x :: r) := by
  cases r with
  | nil => exact h
  | cons y r => exact ⟨h, fun _ => hd y r rfl, g⟩
theorem okc_app : ∀ {a b : List (Nat × Nat)}, okc a → okc b → okh b → okc (a ++ b)
  | [], _, _, g, _ => g
  | [x], _, h, g, hd => okc_cons h g hd
  | x :: y :: r, _, h, g, hd => ⟨h.1, h.2.1, okc_app h.2.2 g hd⟩
theorem flc_app : ∀ (a b : List (Nat × Nat)), flc (a ++ b) = flc a ++ flc b
  | [], _ => rfl
  | (bl, c) :: r, b => by
    show List.replicate bl 32 ++ (tokB c ++ flc (r ++ b)) = List.replicate bl 32 ++ (tokB c ++ flc r) ++ flc b
    rw [flc_app r b, List.append_assoc, List.append_assoc]
/-- where the bytes of a row of codes stand, there is its text -/
theorem lay_c {σ : mi_Sg} (H : KW σ) : ∀ (l : List (Nat × Nat)) (p : Int), okc l → tby σ p (flc l) → mi_sF σ 3 6 = p + (flc l).length → tlay σ p (l.map itc)
  | [], p, _, _, e => by
    have e' : mi_sF σ 3 6 = p + 0 := e
    exact ⟨by omega, fun i a b => by omega⟩
  | (bl, c) :: r, p, ok, t, e => by
    have hc : c < 30 := okc_30 ok
    obtain ⟨t1, t2⟩ := tby_app t
    obtain ⟨t3, t4⟩ := tby_app t2
    rw [List.length_replicate] at t2 t3 t4
    have el : ((flc ((bl, c) :: r)).length : Int) = bl + ((tokB c).length + (flc r).length) := by
      show ((List.replicate bl 32 ++ (tokB c ++ flc r)).length : Int) = _
      simp
    obtain ⟨a1, a2, a3⟩ := tok_all ⟨c, hc⟩
    dsimp only at a1 a2 a3
    show (∀ i, p ≤ i → i < p + (bl : Int) → mi_sA σ 1 i = 32) ∧ tki σ (p + bl) (tokB c) (tokK c) (tokY c) ∧ tlay σ (p + bl + (tokB c).length) (r.map itc)
    refine ⟨fun i i0 i1 => ?_, ⟨t3, ⟨a1, by omega⟩, a2, ?_⟩, lay_c H r _ (okc_t ok) t4 (by omega)⟩
    · have := t1 (i - p).toNat 32 (by rw [List.getElem?_replicate, if_pos (by omega)])
      rw [show p + (((i - p).toNat : Nat) : Int) = i by omega] at this
      exact this
    · by_cases h16 : c < 16
      · left
        obtain ⟨w1, w2, w3, w4⟩ := tok_word ⟨c, h16⟩
        dsimp only at w1 w2 w3 w4
        refine ⟨all_zip w1, w2, fun hlt => ?_, fun x hx => ?_, w4.symm⟩
        · cases r with
          | nil =>
            have : ((flc ([] : List (Nat × Nat))).length : Int) = 0 := rfl
            omega
          | cons y r =>
            obtain ⟨bl', c'⟩ := y
            have hn : 0 < bl' ∨ 16 ≤ c' := ok.2.1 h16
            have hc' : c' < 30 := okc_30 ok.2.2
            by_cases hb : 0 < bl'
            · have := t4 0 32 (by
                show (List.replicate bl' 32 ++ (tokB c' ++ flc r))[0]? = _
                rw [List.getElem?_append_left (by simpa using hb), List.getElem?_replicate, if_pos hb])
              rw [show p + (bl : Int) + ((tokB c).length : Int) + ((0 : Nat) : Int) = p + bl + (tokB c).length by omega] at this
              rw [this]
              unfold sm dg
              omega
            · have h16' : 16 ≤ c' := hn.resolve_left hb
              obtain ⟨b, hb0, n1, n2⟩ := tok_fb h16' hc'
              have hb0' : bl' = 0 := by omega
              have := t4 0 b (by
                show (List.replicate bl' 32 ++ (tokB c' ++ flc r))[0]? = _
                rw [hb0', List.replicate_zero, List.nil_append, List.getElem?_append_left (List.getElem?_eq_some_iff.mp hb0).1]
                exact hb0)
              rw [show p + (bl : Int) + ((tokB c).length : Int) + ((0 : Nat) : Int) = p + bl + (tokB c).length by omega] at this
              rw [this]
              exact ⟨n1, n2⟩
        · rw [kw_idx H hx]
          exact w3
      · right
        rcases tok_sym (c := c) (by omega) hc with ⟨b, b1, b2, b3, b4⟩ | ⟨b1, b2, b3⟩ | ⟨b, b1, b2, b3, b4⟩
        · exact Or.inl ⟨b, b1, b2, b3, b4⟩
        · exact Or.inr (Or.inl ⟨b1, b2, b3⟩)
        · exact Or.inr (Or.inr ⟨b, b1, b2, b3, b4⟩)
