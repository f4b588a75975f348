/-! ===== the instructions that touch cells are the machine's ===== -/
theorem mi_clok {ci : Nat} {q : vw_C} (h : mi_cl[ci]? = some q) : q ∈ mi_cl ∧ (∀ k, k < q.2.2 → parseFieldDescriptor (q.2.1 k).2.2.1 = some (mi_ty ci k)) ∧ (∀ a, a < q.2.2 → ∀ b, b < q.2.2 → a ≠ b → (q.2.1 a).2.1 ≠ (q.2.1 b).2.1) ∧ (∀ k, k < q.2.2 → (q.2.1 k).1 = q.1) ∧ q.1 = mi_on ci := by
  refine ⟨List.mem_of_getElem? h, ?_⟩
  match ci, h with
  | 0, h => cases h; exact ⟨tyX0_ok, nmX0, onX0, rfl⟩
  | 1, h => cases h; exact ⟨tyX1_ok, nmX1, onX1, rfl⟩
  | 2, h => cases h; exact ⟨tyX2_ok, nmX2, onX2, rfl⟩
  | 3, h => cases h; exact ⟨tyX3_ok, nmX3, onX3, rfl⟩
  | 4, h => cases h; exact ⟨tyX4_ok, nmX4, onX4, rfl⟩
  | 5, h => cases h; exact ⟨tyX5_ok, nmX5, onX5, rfl⟩
  | 6, h => cases h; exact ⟨tyX6_ok, nmX6, onX6, rfl⟩
  | 7, h => cases h; exact ⟨tyX7_ok, nmX7, onX7, rfl⟩
  | 8, h => cases h; exact ⟨tyX8_ok, nmX8, onX8, rfl⟩
  | 9, h => cases h; exact ⟨tyX9_ok, nmX9, onX9, rfl⟩
  | 10, h => cases h; exact ⟨tyX10_ok, nmX10, onX10, rfl⟩
  | n + 11, h => cases h
theorem mi_rl_get {ad : List Nat} {cn : Nat → Nat} : ∀ {fs gs : List Value} {j : Nat} {v : Value}, mi_rl ad cn fs gs → fs[j]? = some v → ∃ w : Value, gs[j]? = some w ∧ mi_rv ad cn v w
  | [], _, _, _, _, h => by cases h
  | _ :: _, _, 0, _, ⟨w, _, rfl, a, _⟩, h => by cases h; exact ⟨w, rfl, a⟩
  | _ :: _, _, j + 1, _, ⟨_, _, rfl, _, b⟩, h => by
    obtain ⟨w, h1, h2⟩ := mi_rl_get (j := j) b (by simpa using h)
    exact ⟨w, by simpa using h1, h2⟩
theorem mi_rl_set {ad : List Nat} {cn : Nat → Nat} {v w : Value} (hv : mi_rv ad cn v w) : ∀ {fs gs : List Value} (j : Nat), mi_rl ad cn fs gs → mi_rl ad cn (fs.set j v) (gs.set j w)
  | [], _, _, h => by
    have h' : _ = [] := h
    subst h'
    exact rfl
  | _ :: _, _, 0, ⟨_, gs', rfl, _, b⟩ => ⟨w, gs', rfl, hv, b⟩
  | _ :: _, _, j + 1, ⟨w0, gs', rfl, a, b⟩ => ⟨w0, gs'.set j w, rfl, a, mi_rl_set hv j b⟩
theorem mi_rl_len {ad : List Nat} {cn : Nat → Nat} : ∀ {fs gs : List Value}, mi_rl ad cn fs gs → gs.length = fs.length
  | [], _, h => by
    have h' : _ = [] := h
    subst h'
    rfl
  | _ :: _, _, ⟨_, _, rfl, _, b⟩ => by simp [mi_rl_len b]
/-- what a cell holds, there and here -/
def mi_ro (ids : Nat → ClassId) (ad : List Nat) (cn : Nat → Nat) (a e : va_E) : Prop := match a with
  | .inl (t, n, .inl f) => e = .inl (ids t, n, .inl f)
  | .inl (t, n, .inr (.inl f)) => e = .inl (ids t, n, .inr (.inl f))
  | .inl (t, n, .inr (.inr (.inr (.inr f)))) => e = .inl (ids t, n, .inr (.inr (.inr (.inr (fun i => (f i).map cn)))))
  | .inl _ => False
  | .inr o => ∃ gs, e = .inr (o.1, gs) ∧ mi_rl ad cn o.2 gs
theorem mi_ro_mono {ids : Nat → ClassId} {ad ad' : List Nat} {cn : Nat → Nat} (hle : mi_le ad ad') {a e : va_E} (h : mi_ro ids ad cn a e) : mi_ro ids ad' cn a e := by
  match a, h with
  | .inl (t, n, .inl f), h => exact h
  | .inl (t, n, .inr (.inl f)), h => exact h
  | .inl (t, n, .inr (.inr (.inr (.inr f)))), h => exact h
  | .inr o, ⟨gs, h1, h2⟩ => exact ⟨gs, h1, mi_rl_mono hle h2⟩
def mi_rw (ids : Nat → ClassId) (ad : List Nat) (cn : Nat → Nat) (h : mi_H) (ws : va_W) : Prop := ad.length = h.length ∧ ws.length = h.length ∧ ∀ (k : Nat) (o : va_E), h[k]? = some o → ∃ (a : Nat) (e : va_E), ad[k]? = some a ∧ ws[k]? = some (a, e) ∧ mi_ro ids ad cn o e
theorem mi_rw_set {ids : Nat → ClassId} {ad : List Nat} {cn : Nat → Nat} {h : mi_H} {ws : va_W} (hw : mi_rw ids ad cn h ws) {k a : Nat} (ha : ad[k]? = some a) {o e : va_E} (ho : mi_ro ids ad cn o e) : mi_rw ids ad cn (h.set k o) (ws.set k (a, e)) := by
  obtain ⟨h1, h2, h3⟩ := hw
  refine ⟨by simpa using h1, by simpa using h2, fun j o' hj => ?_⟩
  by_cases hjk : k = j
  · subst hjk
    have hl : k < h.length := by
      have := (List.getElem?_eq_some_iff.mp hj).1
      simpa using this
    rw [List.getElem?_set_self (by simpa using hl)] at hj
    cases hj
    exact ⟨a, e, ha, by rw [List.getElem?_set_self (by omega)], ho⟩
  · rw [List.getElem?_set_ne hjk] at hj
    obtain ⟨a', e', g1, g2, g3⟩ := h3 j o' hj
    exact ⟨a', e', g1, by rw [List.getElem?_set_ne hjk]; exact g2, g3⟩
theorem mi_rw_push {ids : Nat → ClassId} {ad : List Nat} {cn : Nat → Nat} {h : mi_H} {ws : va_W} (hw : mi_rw ids ad cn h ws) {q : Nat} {o e : va_E} (ho : mi_ro ids (ad ++ [q]) cn o e) : mi_rw ids (ad ++ [q]) cn (h ++ [o]) (ws ++ [(q, e)]) := by
  obtain ⟨h1, h2, h3⟩ := hw
  refine ⟨by simp [h1], by simp [h2], fun j o' hj => ?_⟩
  by_cases hl : j < h.length
  · rw [List.getElem?_append_left hl] at hj
    obtain ⟨a', e', g1, g2, g3⟩ := h3 j o' hj
    exact ⟨a', e', mi_le_app _ _ _ _ g1, by rw [List.getElem?_append_left (by omega)]; exact g2, mi_ro_mono (mi_le_app _ _) g3⟩
  · have hz := (List.getElem?_eq_some_iff.mp hj).1
    simp at hz
    have hj2 : j = h.length := by omega
    subst hj2
    rw [List.getElem?_append_right (by omega)] at hj
    simp at hj
    subst hj
    exact ⟨q, e, by rw [List.getElem?_append_right (by omega)]; simp [h1], by rw [List.getElem?_append_right (by omega)]; simp [h2], ho⟩
theorem mi_last_ad {ids : Nat → ClassId} {ad : List Nat} {cn : Nat → Nat} {h : mi_H} {ws : va_W} (hw : mi_rw ids ad cn h ws) (q : Nat) : (ad ++ [q])[h.length]? = some q := by
  rw [← hw.1, List.getElem?_append_right (by omega)]
  simp
def mi_tys (ids : Nat → ClassId) : List (ClassId × FieldType) := [(ids 0, .int), (ids 1, .long), (ids 2, .byte), (ids 3, .boolean), (ids 4, .object "java/lang/String")]
/-- the cells as they are at a point of a method -/
def mi_Wd (D : va_G) (ids : Nat → ClassId) (cn : Nat → Nat) (A : Nat → Prop) (s : State) (ad : List Nat) (h : mi_H) (H : Heap) (locs : List Loc) : Prop := ∃ ws, mi_rw ids ad cn h ws ∧ va_P D mi_cl ws H ∧ va_D A ws ∧ va_S A s.heap H locs
/-- a String constant: number i of mi_sw, the cell cn (4 i), its bytes the cell cn (4 i + 1) -/
def mi_Gs (cn : Nat → Nat) (A : Nat → Prop) (s : State) (H : Heap) : Prop := ∀ i : Nat, i < mi_nS → va_O "java/lang/String" (cn (4 * i)) A s H ∧ va_OF "java/lang/String" "coder" "B" (.int 0) (cn (4 * i)) A s H ∧ va_OF "java/lang/String" "value" "[B" (.ref (cn (4 * i + 1))) (cn (4 * i)) A s H ∧ va_T .byte (cn (4 * i + 1)) (mi_byt.getD i []).length (fun j => .int ((mi_byt.getD i []).getD j 0)) A s H
/-- what is known of cells that nobody writes: String constants, statics, the script -/
def mi_Gc (X : mi_X) (cn : Nat → Nat) (A : Nat → Prop) (s : State) (H : Heap) : Prop :=
  mi_Gs cn A s H ∧ True ∧
  va_Zq "jdk/internal/util/Preconditions" "SIOOBE_FORMATTER" "Ljava/util/function/BiFunction;" A s H ∧ va_Z "java/lang/String" "COMPACT_STRINGS" "Z" (.int 1) A s H ∧
  (match X with | some x => va_X (cn 3) x.1 x.2 s H ∧ cn 3 < H.size ∧ ¬ A (cn 3) | none => True)
theorem mi_inb_ok {j : Int32} {n : Nat} (h : mi_inb j n = true) : vp_in j n := by
  simp only [mi_inb, Bool.and_eq_true, decide_eq_true_eq] at h
  exact vp_in_iff.mpr h
theorem mi_fit_ok {ty : FieldType} {v w : Value} {ad : List Nat} {cn : Nat → Nat} (h : mi_fit ty v = true) (hr : mi_rv ad cn v w) : narrow ty w = w ∧ fits ty w = true := by
  have hp : ∀ t : FieldType, (∀ n, t ≠ .object n) → (∀ n, t ≠ .array n) → mi_fit t v = true → narrow t v = v ∧ fits t v = true ∧ ∃ x : Value, w = v := by
    intro t ht1 ht2 h
    have h' : (decide (narrow t v = v) && fits t v) = true := by
      cases t <;> first | exact h | exact absurd rfl (ht1 _) | exact absurd rfl (ht2 _) | exact absurd h (by decide) | (exact absurd h Bool.false_ne_true)
    have hnf : t ≠ .float := by
      intro q
      subst q
      exact absurd h Bool.false_ne_true
    simp only [Bool.and_eq_true, decide_eq_true_eq] at h'
    refine ⟨h'.1, h'.2, v, ?_⟩
    cases v <;> first
      | exact hr
      | (exfalso; cases t <;> first | exact absurd rfl (ht1 _) | exact absurd rfl (ht2 _) | exact absurd rfl hnf | (exact absurd h'.2 (by simp [fits])))
  cases ty
  case object n => rcases mi_rv_A hr h with rfl | ⟨a, rfl⟩ <;> exact ⟨rfl, rfl⟩
  case array n => rcases mi_rv_A hr h with rfl | ⟨a, rfl⟩ <;> exact ⟨rfl, rfl⟩
  all_goals (obtain ⟨a, b, _, rfl⟩ := hp _ (fun n => by intro q; cases q) (fun n => by intro q; cases q) h; exact ⟨a, b⟩)
