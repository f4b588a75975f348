/-! ===== a run over cells of which some are not known is a run over all cells that agree with the known ones ===== -/
/-- a cell that is not known: no instruction reads it -/
def mi_du : va_E := .inl (9, 0, .inr (.inr (.inr (.inr (fun _ => none)))))
def mi_lq (h g : mi_H) : Prop := h.length = g.length ∧ ∀ k : Nat, h[k]? = g[k]? ∨ h[k]? = some mi_du
/-- behind a step: h', g' agree likewise, and what was not known is as it was -/
def mi_kp (h g h' g' : mi_H) : Prop := mi_lq h' g' ∧ ∀ k : Nat, h[k]? = some mi_du → g'[k]? = g[k]? ∧ h'[k]? = some mi_du
theorem mi_kp_rf {h g : mi_H} (q : mi_lq h g) : mi_kp h g h g := ⟨q, fun _ e => ⟨rfl, e⟩⟩
theorem mi_kp_tr {h g h' g' h2 g2 : mi_H} (a : mi_kp h g h' g') (b : mi_kp h' g' h2 g2) : mi_kp h g h2 g2 := ⟨b.1, fun k e => ⟨(b.2 k (a.2 k e).2).1.trans (a.2 k e).1, (b.2 k (a.2 k e).2).2⟩⟩
theorem mi_du_r {o : Nat × List Value} : (.inr o : va_E) ≠ mi_du := fun e => by cases e
theorem mi_du_i {t n : Nat} {f : Nat → Int32} : (.inl (t, n, .inl f) : va_E) ≠ mi_du := fun e => by cases e
theorem mi_du_l {t n : Nat} {f : Nat → Int64} : (.inl (t, n, .inr (.inl f)) : va_E) ≠ mi_du := fun e => by cases e
theorem mi_lq_r {h g : mi_H} {k : Nat} {e : va_E} (q : mi_lq h g) (he : h[k]? = some e) (hd : e ≠ mi_du) : g[k]? = some e := by
  rcases q.2 k with h1 | h1
  · rw [← h1]; exact he
  · rw [he] at h1
    cases h1
    exact absurd rfl hd
theorem mi_lq_set {h g : mi_H} {k : Nat} {e0 e : va_E} (q : mi_lq h g) (he : h[k]? = some e0) (hd : e0 ≠ mi_du) : mi_kp h g (h.set k e) (g.set k e) := by
  have hg := mi_lq_r q he hd
  refine ⟨⟨by rw [List.length_set, List.length_set]; exact q.1, fun j => ?_⟩, fun j hj => ?_⟩
  · by_cases hk : k = j
    · subst hk
      rw [mi_set_eq he, mi_set_eq hg]
      exact Or.inl rfl
    · rw [mi_set_ne hk, mi_set_ne hk]
      exact q.2 j
  · have hk : k ≠ j := fun e => by
      subst e
      rw [he] at hj
      cases hj
      exact hd rfl
    rw [mi_set_ne hk, mi_set_ne hk]
    exact ⟨rfl, hj⟩
theorem mi_lq_app {h g : mi_H} {e : va_E} (q : mi_lq h g) : mi_kp h g (h ++ [e]) (g ++ [e]) := by
  refine ⟨⟨by simp [q.1], fun j => ?_⟩, fun j hj => ?_⟩
  · by_cases hj : j < h.length
    · rw [List.getElem?_append_left hj, List.getElem?_append_left (by rw [← q.1]; exact hj)]
      exact q.2 j
    · rw [List.getElem?_append_right (Nat.le_of_not_lt hj), List.getElem?_append_right (by rw [← q.1]; exact Nat.le_of_not_lt hj), q.1]
      exact Or.inl rfl
  · have h1 := (List.getElem?_eq_some_iff.mp hj).1
    rw [List.getElem?_append_left h1, List.getElem?_append_left (by rw [← q.1]; exact h1)]
    exact ⟨rfl, hj⟩
section MLE
variable {X : mi_X} {M : mi_M} {i : Instr} {pc c s : Nat} {st : List Value} {h g : mi_H} {z : Nat × List Value × mi_H × Nat × Nat}
theorem mi_gf_le {ci j k : Nat} {r : List Value} (q : mi_lq h g) (hh : mi_gf ci j k pc r h c s = some z) : ∃ g', mi_gf ci j k pc r g c s = some (z.1, z.2.1, g', z.2.2.2) ∧ mi_kp h g z.2.2.1 g' := by
  unfold mi_gf at hh ⊢
  split at hh
  next o ho =>
    have hg := mi_lq_r q ho mi_du_r
    rw [hg]
    split at hh
    next hc =>
      split at hh
      next v hv => cases hh; exact ⟨g, (if_pos hc).trans (by rw [hv]), mi_kp_rf q⟩
      next => cases hh
    next => cases hh
  next => cases hh
theorem mi_gs_le {j k : Nat} {r : List Value} (q : mi_lq h g) (hh : mi_gs j k pc r h c s = some z) : ∃ g', mi_gs j k pc r g c s = some (z.1, z.2.1, g', z.2.2.2) ∧ mi_kp h g z.2.2.1 g' := by
  unfold mi_gs at hh ⊢
  split at hh
  next hA =>
    split at hh
    next hB => cases hh; exact ⟨g, (if_pos hA).trans (if_pos hB), mi_kp_rf q⟩
    next hB =>
      split at hh
      next hC => cases hh; exact ⟨g, (if_pos hA).trans ((if_neg hB).trans (if_pos hC)), mi_kp_rf q⟩
      next => cases hh
  next => cases hh
theorem mi_getf_le {o idx : Nat} (q : mi_lq h g) (hh : mi_getf o idx pc st h c s = some z) : ∃ g', mi_getf o idx pc st g c s = some (z.1, z.2.1, g', z.2.2.2) ∧ mi_kp h g z.2.2.1 g' := by
  unfold mi_getf at hh ⊢
  split at hh
  next k r =>
    split at hh
    next x hx =>
      try simp only [hx]
      exact mi_gf_le q hh
    next hx =>
      split at hh
      next x hx2 =>
        try simp only [hx, hx2]
        exact mi_gf_le q hh
      next => cases hh
  next k r =>
    split at hh
    next j hj =>
      try simp only [hj]
      exact mi_gs_le q hh
    next => cases hh
  next => cases hh
theorem mi_pf_le {ci j k : Nat} {v : Value} {r : List Value} (q : mi_lq h g) (hh : mi_pf M ci j k pc v r h c s = some z) : ∃ g', mi_pf M ci j k pc v r g c s = some (z.1, z.2.1, g', z.2.2.2) ∧ mi_kp h g z.2.2.1 g' := by
  unfold mi_pf at hh ⊢
  split at hh
  next o ho =>
    have hg := mi_lq_r q ho mi_du_r
    rw [hg]
    split at hh
    next hc => cases hh; exact ⟨_, if_pos hc, mi_lq_set q ho mi_du_r⟩
    next => cases hh
  next => cases hh
theorem mi_putf_le {idx : Nat} (q : mi_lq h g) (hh : mi_putf M idx pc st h c s = some z) : ∃ g', mi_putf M idx pc st g c s = some (z.1, z.2.1, g', z.2.2.2) ∧ mi_kp h g z.2.2.1 g' := by
  unfold mi_putf at hh ⊢
  split at hh
  next v k r =>
    split at hh
    next x hx =>
      try simp only [hx]
      exact mi_pf_le q hh
    next => cases hh
  next => cases hh
theorem mi_ald_lq {t : Nat} (q : mi_lq h g) (hh : mi_ald t pc st h c s = some z) : (∃ g', mi_ald t pc st g c s = some (z.1, z.2.1, g', z.2.2.2) ∧ mi_kp h g z.2.2.1 g') ∧ ∀ t', mi_ald t' pc st h c s = none → mi_ald t' pc st g c s = none := by
  unfold mi_ald at hh ⊢
  split at hh
  next j k r =>
    split at hh
    next t' n f ho =>
      have hg := mi_lq_r q ho mi_du_i
      refine ⟨?_, fun t2 h2 => ?_⟩
      · rw [hg]
        split at hh
        next hc => cases hh; exact ⟨g, if_pos hc, mi_kp_rf q⟩
        next => cases hh
      · try dsimp only at h2 ⊢
        rw [hg]
        by_cases hc : t' = t2 ∧ mi_inb j n = true
        · have h2' := (if_pos hc).symm.trans h2
          cases h2'
        · exact if_neg hc
    next => cases hh
  next => cases hh
theorem mi_sld_le (q : mi_lq h g) (hh : mi_sld X pc st h c s = some z) : (∃ g', mi_sld X pc st g c s = some (z.1, z.2.1, g', z.2.2.2) ∧ mi_kp h g z.2.2.1 g') ∧ ∀ t', mi_ald t' pc st g c s = none := by
  unfold mi_sld at hh ⊢
  split at hh
  next x j k r =>
    split at hh
    next hA => cases hh; exact ⟨⟨g, if_pos hA, mi_kp_rf q⟩, fun _ => rfl⟩
    next => cases hh
  next => cases hh
theorem mi_bld_le (q : mi_lq h g) (hh : mi_bld pc st h c s = some z) : (∃ g', mi_bld pc st g c s = some (z.1, z.2.1, g', z.2.2.2) ∧ mi_kp h g z.2.2.1 g') ∧ ∀ t', mi_ald t' pc st g c s = none := by
  unfold mi_bld at hh ⊢
  split at hh
  next j k r =>
    split at hh
    next hA => cases hh; exact ⟨⟨g, if_pos hA, mi_kp_rf q⟩, fun _ => rfl⟩
    next => cases hh
  next => cases hh
theorem mi_lald_le (q : mi_lq h g) (hh : mi_lald pc st h c s = some z) : ∃ g', mi_lald pc st g c s = some (z.1, z.2.1, g', z.2.2.2) ∧ mi_kp h g z.2.2.1 g' := by
  unfold mi_lald at hh ⊢
  split at hh
  next j k r =>
    split at hh
    next t' n f ho =>
      have hg := mi_lq_r q ho mi_du_l
      rw [hg]
      split at hh
      next hc => cases hh; exact ⟨g, if_pos hc, mi_kp_rf q⟩
      next => cases hh
    next => cases hh
  next => cases hh
theorem mi_qld_le (q : mi_lq h g) (hh : mi_qld pc st h c s = some z) : ∃ g', mi_qld pc st g c s = some (z.1, z.2.1, g', z.2.2.2) ∧ mi_kp h g z.2.2.1 g' := by
  cases hh
theorem mi_ast_lq {t : Nat} {f' : Int32 → Int32} (q : mi_lq h g) (hh : mi_ast t f' pc st h c s = some z) : (∃ g', mi_ast t f' pc st g c s = some (z.1, z.2.1, g', z.2.2.2) ∧ mi_kp h g z.2.2.1 g') ∧ ∀ t' f2, mi_ast t' f2 pc st h c s = none → mi_ast t' f2 pc st g c s = none := by
  unfold mi_ast at hh ⊢
  split at hh
  next x j k r =>
    split at hh
    next t' n f ho =>
      have hg := mi_lq_r q ho mi_du_i
      refine ⟨?_, fun t2 f2 h2 => ?_⟩
      · rw [hg]
        split at hh
        next hc => cases hh; exact ⟨_, if_pos hc, mi_lq_set q ho mi_du_i⟩
        next => cases hh
      · try dsimp only at h2 ⊢
        rw [hg]
        by_cases hc : t' = t2 ∧ mi_inb j n = true
        · have h2' := (if_pos hc).symm.trans h2
          cases h2'
        · exact if_neg hc
    next => cases hh
  next => cases hh
theorem mi_last_le (q : mi_lq h g) (hh : mi_last pc st h c s = some z) : ∃ g', mi_last pc st g c s = some (z.1, z.2.1, g', z.2.2.2) ∧ mi_kp h g z.2.2.1 g' := by
  unfold mi_last at hh ⊢
  split at hh
  next x j k r =>
    split at hh
    next t' n f ho =>
      have hg := mi_lq_r q ho mi_du_l
      rw [hg]
      split at hh
      next hc => cases hh; exact ⟨_, if_pos hc, mi_lq_set q ho mi_du_l⟩
      next => cases hh
    next => cases hh
  next => cases hh
theorem mi_alen_le (q : mi_lq h g) (hh : mi_alen X pc st h c s = some z) : ∃ g', mi_alen X pc st g c s = some (z.1, z.2.1, g', z.2.2.2) ∧ mi_kp h g z.2.2.1 g' := by
  unfold mi_alen at hh ⊢
  split at hh
  next k r =>
    split at hh
    next t' n f ho =>
      have hg := mi_lq_r q ho mi_du_i
      rw [hg]
      split at hh
      next hc => cases hh; exact ⟨g, if_pos hc, mi_kp_rf q⟩
      next => cases hh
    next t' n f ho =>
      have hg := mi_lq_r q ho mi_du_l
      rw [hg]
      split at hh
      next hc => cases hh; exact ⟨g, if_pos hc, mi_kp_rf q⟩
      next => cases hh
    next => cases hh
  next k r =>
    split at hh
    next hA => cases hh; exact ⟨g, if_pos hA, mi_kp_rf q⟩
    next hA =>
      split at hh
      next x =>
        split at hh
        next hC => cases hh; exact ⟨g, (if_neg hA).trans (if_pos hC), mi_kp_rf q⟩
        next => cases hh
      next => cases hh
  next => cases hh
theorem mi_nar_le {t : Nat} {y : Nat → vp_A} (q : mi_lq h g) (hh : mi_nar t y pc st h c s = some z) : ∃ g', mi_nar t y pc st g c s = some (z.1, z.2.1, g', z.2.2.2) ∧ mi_kp h g z.2.2.1 g' := by
  unfold mi_nar at hh ⊢
  split at hh
  next n r =>
    split at hh
    next hA => cases hh; exact ⟨_, (if_pos hA).trans (by rw [q.1]), mi_lq_app q⟩
    next => cases hh
  next => cases hh
theorem mi_new_le {o idx : Nat} (q : mi_lq h g) (hh : mi_new o idx pc st h c s = some z) : ∃ g', mi_new o idx pc st g c s = some (z.1, z.2.1, g', z.2.2.2) ∧ mi_kp h g z.2.2.1 g' := by
  unfold mi_new at hh ⊢
  split at hh
  next ci hci =>
    try simp only [hci]
    split at hh
    next x hx =>
      try simp only [hx]
      cases hh
      exact ⟨_, by rw [q.1], mi_lq_app q⟩
    next => cases hh
  next => cases hh
theorem mi_ldc_le {o idx : Nat} (q : mi_lq h g) (hh : mi_ldc o idx pc st h c s = some z) : ∃ g', mi_ldc o idx pc st g c s = some (z.1, z.2.1, g', z.2.2.2) ∧ mi_kp h g z.2.2.1 g' := by
  unfold mi_ldc at hh ⊢
  split at hh
  next v hv =>
    try simp only [hv]
    cases hh
    exact ⟨g, rfl, mi_kp_rf q⟩
  next hv =>
    try simp only [hv]
    split at hh
    next j hj =>
      try simp only [hj]
      split at hh
      next hA => cases hh; exact ⟨g, if_pos hA, mi_kp_rf q⟩
      next => cases hh
    next => cases hh
theorem mi_ldw_le {o idx : Nat} (q : mi_lq h g) (hh : (match mi_lk (mi_il o) idx with
    | some v => some (pc, Value.int v :: st, h, c, s)
    | none => (match mi_lk (mi_sl o) idx with
      | some i => if i < mi_nS then some (pc, Value.retAddr (4 * i) :: st, h, c, s) else none
      | none => none)) = some z) : ∃ g', (match mi_lk (mi_il o) idx with
    | some v => some (pc, Value.int v :: st, g, c, s)
    | none => (match mi_lk (mi_sl o) idx with
      | some i => if i < mi_nS then some (pc, Value.retAddr (4 * i) :: st, g, c, s) else none
      | none => none)) = some (z.1, z.2.1, g', z.2.2.2) ∧ mi_kp h g z.2.2.1 g' := by
  split at hh
  next v hv =>
    try simp only [hv]
    cases hh
    exact ⟨g, rfl, mi_kp_rf q⟩
  next hv =>
    try simp only [hv]
    split at hh
    next j hj =>
      try simp only [hj]
      split at hh
      next hA => cases hh; exact ⟨g, if_pos hA, mi_kp_rf q⟩
      next => cases hh
    next => cases hh
theorem mi_ldc2_le {o idx : Nat} (q : mi_lq h g) (hh : mi_ldc2 o idx pc st h c s = some z) : ∃ g', mi_ldc2 o idx pc st g c s = some (z.1, z.2.1, g', z.2.2.2) ∧ mi_kp h g z.2.2.1 g' := by
  unfold mi_ldc2 at hh ⊢
  split at hh
  next v hv =>
    try simp only [hv]
    cases hh
    exact ⟨g, rfl, mi_kp_rf q⟩
  next => cases hh
theorem mi_gets_le {o idx : Nat} (q : mi_lq h g) (hh : mi_gets o idx pc st h c s = some z) : ∃ g', mi_gets o idx pc st g c s = some (z.1, z.2.1, g', z.2.2.2) ∧ mi_kp h g z.2.2.1 g' := by
  unfold mi_gets at hh ⊢
  split at hh
  next hv =>
    try simp only [hv]
    cases hh
    exact ⟨g, rfl, mi_kp_rf q⟩
  next hv =>
    try simp only [hv]
    cases hh
    exact ⟨g, rfl, mi_kp_rf q⟩
  next hv =>
    try simp only [hv]
    cases hh
    exact ⟨g, rfl, mi_kp_rf q⟩
  next => cases hh
theorem mi_mem_lq (q : mi_lq h g) (hh : mi_mem X M i pc st h c s = some z) : ∃ g', mi_mem X M i pc st g c s = some (z.1, z.2.1, g', z.2.2.2) ∧ mi_kp h g z.2.2.1 g' := by
  cases i
  case getfield idx => exact mi_getf_le q hh
  case putfield idx => exact mi_putf_le q hh
  case iaload =>
    dsimp only [mi_mem] at hh ⊢
    split at hh
    next z' hz =>
      cases hh
      obtain ⟨⟨g', e, k⟩, -⟩ := mi_ald_lq q hz
      exact ⟨g', by rw [e], k⟩
    next hz =>
      obtain ⟨⟨g', e, k⟩, no⟩ := mi_sld_le q hh
      exact ⟨g', by rw [no 0]; exact e, k⟩
  case baload =>
    dsimp only [mi_mem] at hh ⊢
    split at hh
    next z' hz =>
      cases hh
      obtain ⟨⟨g', e, k⟩, -⟩ := mi_ald_lq q hz
      exact ⟨g', by rw [e], k⟩
    next hz =>
      split at hh
      next z' hz2 =>
        cases hh
        obtain ⟨⟨g', e, k⟩, no⟩ := mi_ald_lq q hz2
        exact ⟨g', by rw [no 2 hz, e], k⟩
      next hz2 =>
        obtain ⟨⟨g', e, k⟩, no⟩ := mi_bld_le q hh
        exact ⟨g', by rw [no 2, no 3]; exact e, k⟩
  case laload => exact mi_lald_le q hh
  case aaload => exact mi_qld_le q hh
  case iastore => exact (mi_ast_lq q hh).1
  case bastore =>
    dsimp only [mi_mem] at hh ⊢
    split at hh
    next z' hz =>
      cases hh
      obtain ⟨⟨g', e, k⟩, -⟩ := mi_ast_lq q hz
      exact ⟨g', by rw [e], k⟩
    next hz =>
      obtain ⟨⟨g', e, k⟩, no⟩ := mi_ast_lq q hh
      exact ⟨g', by rw [no 2 _ hz]; exact e, k⟩
  case lastore => exact mi_last_le q hh
  case arraylength => exact mi_alen_le q hh
  case newarray t =>
    cases t
    case int => exact mi_nar_le (t := 0) (y := fun n => (n, .inl (fun _ => 0))) q hh
    case long => exact mi_nar_le (t := 1) (y := fun n => (n, .inr (.inl (fun _ => 0)))) q hh
    case byte => exact mi_nar_le (t := 2) (y := fun n => (n, .inl (fun _ => 0))) q hh
    case boolean => exact mi_nar_le (t := 3) (y := fun n => (n, .inl (fun _ => 0))) q hh
    all_goals (cases hh)
  case new idx => exact mi_new_le q hh
  case ldc idx => exact mi_ldc_le q hh
  case ldc_w idx => exact mi_ldw_le q hh
  case ldc2_w idx => exact mi_ldc2_le q hh
  case getstatic idx => exact mi_gets_le q hh
  all_goals (cases hh)
theorem mi_rc_le {v : Value} {o : Nat} (q : mi_lq h g) (hh : mi_rc h v o = true) : mi_rc g v o = true := by
  cases v
  case ref k =>
    unfold mi_rc at hh ⊢
    dsimp only at hh ⊢
    split at hh
    next x hx => rw [mi_lq_r q hx mi_du_r]; exact hh
    next => cases hh
  all_goals exact hh
theorem mi_cal_le {r : mi_M × List Value × List Value} (q : mi_lq h g) (hh : mi_cal M i st h = some r) : mi_cal M i st g = some r ∧ mi_mem X M i pc st g c s = none := by
  cases i
  case invokevirtual idx =>
    refine ⟨?_, rfl⟩
    unfold mi_cal at hh ⊢
    dsimp only at hh ⊢
    split at hh
    next k hk =>
      try simp only [hk]
      split at hh
      next M' hM =>
        try simp only [hM]
        split at hh
        next hA => exact (if_pos ⟨hA.1, hA.2.1, hA.2.2.1, mi_rc_le q hA.2.2.2⟩).trans hh
        next => cases hh
      next => cases hh
    next => cases hh
  case invokestatic idx => exact ⟨hh, rfl⟩
  case invokespecial idx => exact ⟨hh, rfl⟩
  all_goals (cases hh)
theorem mi_easy_mem {r : List Value} (hh : mi_easy M i st = some r) : mi_mem X M i pc st g c s = none := by
  cases i
  case invokestatic idx => rfl
  case invokespecial idx => rfl
  all_goals (unfold mi_easy at hh; cases hh)
end MLE
theorem mi_run_le {X : mi_X} : ∀ (n d : Nat) (M : mi_M) (pc : Nat) (l : mi_L) (st : List Value) (h g : mi_H) (c s : Nat) (r : mi_Z), mi_lq h g → mi_run X n d M pc l st h c s = some r → ∃ g', mi_run X n d M pc l st g c s = some (r.1, g', r.2.2) ∧ mi_kp h g r.2.1 g'
  | 0, _, _, _, _, _, _, _, _, _, _, _, hr => by
    rw [mi_run_0] at hr
    cases hr
  | n + 1, d, M, pc, l, st, h, g, c, s, r, q, hr => by
    have ih := @mi_run_le X n
    unfold mi_run at hr ⊢
    split at hr
    next t ht =>
      try simp only [ht]
      split at hr
      next hA => cases hr; exact ⟨g, if_pos hA, mi_kp_rf q⟩
      next => cases hr
    next ht =>
      try simp only [ht]
      split at hr
      next => cases hr
      next i len hi =>
        try simp only [hi]
        split at hr
        next pc' l' st' hp =>
          try simp only [hp]
          exact ih _ _ _ _ _ _ _ _ _ _ q hr
        next hp =>
          try simp only [hp]
          split at hr
          next v hv =>
            try simp only [hv]
            split at hr
            next hA => cases hr; exact ⟨g, if_pos hA, mi_kp_rf q⟩
            next => cases hr
          next hv =>
            try simp only [hv]
            split at hr
            next pc' st' h' c' s' hm =>
              obtain ⟨g1, hm', k1⟩ : ∃ g1, (if len = mi_ml2 i then mi_mem X M i pc st g c s else none) = some (pc', st', g1, c', s') ∧ mi_kp h g h' g1 := by
                split at hm
                next hl =>
                  obtain ⟨g1, e, k⟩ := mi_mem_lq q hm
                  exact ⟨g1, (if_pos hl).trans e, k⟩
                next => cases hm
              try simp only [hm']
              obtain ⟨g2, e2, k2⟩ := ih _ _ _ _ _ _ _ _ _ _ k1.1 hr
              exact ⟨g2, e2, mi_kp_tr k1 k2⟩
            next hm =>
              split at hr
              next h3 =>
                split at hr
                next => cases hr
                next d' =>
                  split at hr
                  next st' he =>
                    have hm' : (if len = mi_ml2 i then mi_mem X M i pc st g c s else none) = none := by
                      rw [mi_easy_mem he]
                      split <;> rfl
                    try simp only [hm', he]
                    rw [if_pos h3]
                    exact ih _ _ _ _ _ _ _ _ _ _ q hr
                  next he =>
                    split at hr
                    next => cases hr
                    next M' args rest hcal =>
                      obtain ⟨hcal', hno⟩ := mi_cal_le (X := X) (pc := pc) (c := c) (s := s) q hcal
                      have hm' : (if len = mi_ml2 i then mi_mem X M i pc st g c s else none) = none := by
                        rw [hno]
                        split <;> rfl
                      try simp only [hm', he, hcal']
                      rw [if_pos h3]
                      split at hr
                      next => cases hr
                      next v h' c' s' hcr =>
                        obtain ⟨g1, hcr', k1⟩ : ∃ g1, (if mi_cat args ≤ mi_nL M' then mi_run X n d' M' 0 (lv_args 0 args) [] g 0 0 else none) = some (.inl v, g1, c', s') ∧ mi_kp h g h' g1 := by
                          split at hcr
                          next hl =>
                            obtain ⟨g1, e, k⟩ := ih _ _ _ _ _ _ _ _ _ _ q hcr
                            exact ⟨g1, (if_pos hl).trans e, k⟩
                          next => cases hcr
                        try simp only [hcr']
                        obtain ⟨g2, e2, k2⟩ := ih _ _ _ _ _ _ _ _ _ _ k1.1 hr
                        exact ⟨g2, e2, mi_kp_tr k1 k2⟩
                      next x h' c' s' hcr =>
                        obtain ⟨g1, hcr', k1⟩ : ∃ g1, (if mi_cat args ≤ mi_nL M' then mi_run X n d' M' 0 (lv_args 0 args) [] g 0 0 else none) = some (.inr x, g1, c', s') ∧ mi_kp h g h' g1 := by
                          split at hcr
                          next hl =>
                            obtain ⟨g1, e, k⟩ := ih _ _ _ _ _ _ _ _ _ _ q hcr
                            exact ⟨g1, (if_pos hl).trans e, k⟩
                          next => cases hcr
                        try simp only [hcr']
                        split at hr
                        next p' hp' =>
                          try simp only [hp']
                          obtain ⟨g2, e2, k2⟩ := ih _ _ _ _ _ _ _ _ _ _ k1.1 hr
                          exact ⟨g2, e2, mi_kp_tr k1 k2⟩
                        next => cases hr
              next => cases hr
/-! what is read of known cells -/
theorem mi_fv_le {h g : mi_H} {k ci j : Nat} {v : Value} (q : mi_lq h g) (e : mi_fv h k ci j = some v) : mi_fv g k ci j = some v := by
  obtain ⟨o, h1, h2⟩ := mi_fv_inv e
  exact mi_fv_of (mi_lq_r q h1 mi_du_r) h2
theorem mi_ai_le {h g : mi_H} {k t n : Nat} {f : Nat → Int32} (q : mi_lq h g) (e : mi_ai h k = some (t, n, f)) : mi_ai g k = some (t, n, f) := mi_ai_of (mi_lq_r q (mi_ai_inv e) mi_du_i)
theorem mi_al_le {h g : mi_H} {k n : Nat} {f : Nat → Int64} (q : mi_lq h g) (e : mi_al h k = some (n, f)) : mi_al g k = some (n, f) := mi_al_of (mi_lq_r q (mi_al_inv e) mi_du_l)
