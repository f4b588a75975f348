/-! ===== instances; how many marks ===== -/
def inst (a b : tr) : Prop := ∃ θ : Nat → tr, sb θ a = b
theorem sb_fixv {κ : Nat → tr} {v : Nat} : ∀ e : tr, sb κ e = e → vin v e → κ v = .var v
  | .num _, _, h => h.elim
  | .var w, e, h => by
    have h' : w = v := h
    subst h'
    exact e
  | .add a b, e, h => by
    have e' : (.add (sb κ a) (sb κ b) : tr) = .add a b := e
    injection e' with e1 e2
    exact h.elim (sb_fixv a e1) (sb_fixv b e2)
  | .mul a b, e, h => by
    have e' : (.mul (sb κ a) (sb κ b) : tr) = .mul a b := e
    injection e' with e1 e2
    exact h.elim (sb_fixv a e1) (sb_fixv b e2)
theorem sb_var {η : Nat → tr} {t : tr} {v : Nat} (h : sb η t = .var v) : ∃ w, t = .var w ∧ η w = .var v := by
  cases t with
  | num i => exact absurd h (by simp [sb])
  | var w => exact ⟨w, rfl, h⟩
  | add a b => exact absurd h (by simp [sb])
  | mul a b => exact absurd h (by simp [sb])
theorem REN_of {a b : tr} (h : inst a b) (g : inst b a) : REN a b := by
  obtain ⟨θ, hθ⟩ := h
  obtain ⟨η, hη⟩ := g
  have key : ∀ v, vin v a → ∃ w, θ v = .var w ∧ η w = .var v := fun v hv => by
    refine sb_var ?_
    have : sb (fun v => sb η (θ v)) a = a := by rw [← sb_sb, hθ, hη]
    exact sb_fixv a this hv
  classical
  have kx : ∀ v, ∃ w, vin v a → θ v = .var w ∧ η w = .var v := fun v => by
    by_cases hv : vin v a
    · obtain ⟨w, hw⟩ := key v hv
      exact ⟨w, fun _ => hw⟩
    · exact ⟨0, fun q => absurd q hv⟩
  refine ⟨fun v => (kx v).choose, ?_, fun v w hv hw e => ?_⟩
  · rw [← hθ]
    exact sb_ext _ fun v hv => ((kx v).choose_spec hv).1
  · have e1 := ((kx v).choose_spec hv).2
    have e2 := ((kx w).choose_spec hw).2
    have e' : (kx v).choose = (kx w).choose := e
    rw [e'] at e1
    rw [e1] at e2
    injection e2
theorem REN_i {a b : tr} (r : REN a b) : inst a b := by
  obtain ⟨μ, e, -⟩ := r
  exact ⟨_, e.symm⟩
theorem REN_sym {a b : tr} (r : REN a b) : REN b a := by
  obtain ⟨μ, rfl, inj⟩ := r
  classical
  have key : ∀ v, vin v a → (if h : ∃ u, vin u a ∧ μ u = μ v then h.choose else 0) = v := fun v hv => by
    have h : ∃ u, vin u a ∧ μ u = μ v := ⟨v, hv, rfl⟩
    rw [dif_pos h]
    exact inj _ _ h.choose_spec.1 hv h.choose_spec.2
  refine ⟨fun w => if h : ∃ u, vin u a ∧ μ u = w then h.choose else 0, ?_, fun v w hv hw e => ?_⟩
  · rw [sb_sb, sb_ext (η := .var) a (fun v hv => ?_), sb_id]
    show (.var (if h : ∃ u, vin u a ∧ μ u = μ v then h.choose else 0) : tr) = _
    rw [key v hv]
  · obtain ⟨v', hv', ev⟩ := vin_sb a hv
    obtain ⟨w', hw', ew⟩ := vin_sb a hw
    have ev' : μ v' = v := ev
    have ew' : μ w' = w := ew
    subst ev'
    subst ew'
    have e' : (if h : ∃ u, vin u a ∧ μ u = μ v' then h.choose else 0) = (if h : ∃ u, vin u a ∧ μ u = μ w' then h.choose else 0) := e
    rw [key v' hv', key w' hw'] at e'
    rw [e']
theorem inst_tr {a b c : tr} (h : inst a b) (g : inst b c) : inst a c := by
  obtain ⟨θ, rfl⟩ := h
  obtain ⟨η, rfl⟩ := g
  exact ⟨_, (sb_sb a).symm⟩
theorem inst_rf (a : tr) : inst a a := ⟨.var, sb_id a⟩
/-- what is laid for a mark of a type is a type -/
theorem wt_in {θ : Nat → tr} {v : Nat} : ∀ (m : Nat) (e : tr), hg e = m → wt e → wt (sb θ e) → vin v e → wt (θ v) := by
  intro m
  induction m using Nat.strongRecOn with
  | ind m ih =>
  intro e hm h hs hv
  rcases wt_c h with ⟨w, rfl⟩ | (rfl | rfl) | ⟨a, b, wa, wb, rfl | rfl⟩ | ⟨a, wa, rfl⟩
  · have hv' : w = v := hv
    subst hv'
    exact hs
  · rw [vin_tn] at hv; rcases hv with z | z | z <;> exact z.elim
  · rw [vin_tn] at hv; rcases hv with z | z | z <;> exact z.elim
  · rw [hg_tn] at hm
    have hs' : wt (tn 5 (sb θ a) (sb θ b) tr_0) := by
      have := hs
      rw [sb_tn] at this
      exact this
    rw [wt_5] at hs'
    rw [vin_tn] at hv
    rcases hv with z | z | z
    · exact ih _ (by omega) a rfl wa hs'.1 z
    · exact ih _ (by omega) b rfl wb hs'.2 z
    · exact z.elim
  · rw [hg_tn] at hm
    have hs' : wt (tn 6 (sb θ a) (sb θ b) tr_0) := by
      have := hs
      rw [sb_tn] at this
      exact this
    rw [wt_6] at hs'
    rw [vin_tn] at hv
    rcases hv with z | z | z
    · exact ih _ (by omega) a rfl wa hs'.1 z
    · exact ih _ (by omega) b rfl wb hs'.2 z
    · exact z.elim
  · rw [hg_tn] at hm
    have hs' : wt (tn 9 (sb θ a) tr_0 tr_0) := by
      have := hs
      rw [sb_tn] at this
      exact this
    rw [wt_9] at hs'
    rw [vin_tn] at hv
    rcases hv with z | z | z
    · exact ih _ (by omega) a rfl wa hs' z
    · exact z.elim
    · exact z.elim
theorem wl_2 {e : tr} (h : wt e) : 2 ≤ wl e ∧ (wl e = 2 → ∃ w, e = .var w) := by
  have pos : ∀ (m : Nat) (e : tr), hg e = m → wt e → 2 ≤ wl e := by
    intro m
    induction m using Nat.strongRecOn with
    | ind m ih =>
    intro e hm h
    rcases wt_c h with ⟨w, rfl⟩ | (rfl | rfl) | ⟨a, b, wa, wb, rfl | rfl⟩ | ⟨a, wa, rfl⟩
    · exact Int.le_refl 2
    · show (2 : Int) ≤ 3; omega
    · show (2 : Int) ≤ 4; omega
    · rw [hg_tn] at hm
      have e5 : wl (tn 5 a b tr_0) = 3 + (wl a + 2 * bki 2 a) + (wl b + 2 * bki 2 b) := rfl
      have := ih _ (by omega) a rfl wa
      have := ih _ (by omega) b rfl wb
      have := bki_01 2 a
      have := bki_01 2 b
      omega
    · rw [hg_tn] at hm
      have e5 : wl (tn 6 a b tr_0) = 4 + (wl a + 2 * bki 1 a) + (wl b + 2 * bki 0 b) := rfl
      have := ih _ (by omega) a rfl wa
      have := ih _ (by omega) b rfl wb
      have := bki_01 1 a
      have := bki_01 0 b
      omega
    · rw [hg_tn] at hm
      have e5 : wl (tn 9 a tr_0 tr_0) = 5 + (wl a + 2 * bki 3 a) := rfl
      have := ih _ (by omega) a rfl wa
      have := bki_01 3 a
      omega
  refine ⟨pos _ e rfl h, fun q => ?_⟩
  rcases wt_c h with ⟨w, rfl⟩ | (rfl | rfl) | ⟨a, b, wa, wb, rfl | rfl⟩ | ⟨a, wa, rfl⟩
  · exact ⟨w, rfl⟩
  · exact absurd q (by decide)
  · exact absurd q (by decide)
  · have e5 : wl (tn 5 a b tr_0) = 3 + (wl a + 2 * bki 2 a) + (wl b + 2 * bki 2 b) := rfl
    have := pos _ a rfl wa
    have := pos _ b rfl wb
    have := bki_01 2 a
    have := bki_01 2 b
    omega
  · have e5 : wl (tn 6 a b tr_0) = 4 + (wl a + 2 * bki 1 a) + (wl b + 2 * bki 0 b) := rfl
    have := pos _ a rfl wa
    have := pos _ b rfl wb
    have := bki_01 1 a
    have := bki_01 0 b
    omega
  · have e5 : wl (tn 9 a tr_0 tr_0) = 5 + (wl a + 2 * bki 3 a) := rfl
    have := pos _ a rfl wa
    have := bki_01 3 a
    omega
theorem bki_sb {θ : Nat → tr} {w : Nat} {e : tr} (h : wt e) : bki w e ≤ bki w (sb θ e) := by
  rcases wt_c h with ⟨v, rfl⟩ | (rfl | rfl) | ⟨a, b, wa, wb, rfl | rfl⟩ | ⟨a, wa, rfl⟩
  · exact (bki_01 w _).1
  · exact Int.le_refl _
  · exact Int.le_refl _
  · unfold bki; rw [sb_tn, brk_tn, brk_tn]; exact Int.le_refl _
  · unfold bki; rw [sb_tn, brk_tn, brk_tn]; exact Int.le_refl _
  · unfold bki; rw [sb_tn, brk_tn, brk_tn]; exact Int.le_refl _
theorem wl_sb {θ : Nat → tr} : ∀ (m : Nat) (e : tr), hg e = m → wt e → (∀ v, vin v e → wt (θ v)) → wl e ≤ wl (sb θ e) ∧ (wl (sb θ e) = wl e → ∀ v, vin v e → ∃ w, θ v = .var w) := by
  intro m
  induction m using Nat.strongRecOn with
  | ind m ih =>
  intro e hm h hv
  rcases wt_c h with ⟨w, rfl⟩ | (rfl | rfl) | ⟨a, b, wa, wb, rfl | rfl⟩ | ⟨a, wa, rfl⟩
  · have z := wl_2 (hv w rfl)
    refine ⟨z.1, fun q v e => ?_⟩
    have e' : w = v := e
    subst e'
    exact z.2 q
  · exact ⟨Int.le_refl _, fun _ v q => by rw [vin_tn] at q; rcases q with z | z | z <;> exact z.elim⟩
  · exact ⟨Int.le_refl _, fun _ v q => by rw [vin_tn] at q; rcases q with z | z | z <;> exact z.elim⟩
  · rw [hg_tn] at hm
    obtain ⟨a1, a2⟩ := ih _ (by omega) a rfl wa (fun v q => hv v (vin_tn.2 (Or.inl q)))
    obtain ⟨b1, b2⟩ := ih _ (by omega) b rfl wb (fun v q => hv v (vin_tn.2 (Or.inr (Or.inl q))))
    have e5 : wl (tn 5 a b tr_0) = 3 + (wl a + 2 * bki 2 a) + (wl b + 2 * bki 2 b) := rfl
    have e0 : sb θ (tn 5 a b tr_0) = tn 5 (sb θ a) (sb θ b) tr_0 := sb_tn
    have e5' : wl (tn 5 (sb θ a) (sb θ b) tr_0) = 3 + (wl (sb θ a) + 2 * bki 2 (sb θ a)) + (wl (sb θ b) + 2 * bki 2 (sb θ b)) := rfl
    have x := bki_sb (θ := θ) (w := 2) wa
    have y := bki_sb (θ := θ) (w := 2) wb
    rw [e0, e5, e5']
    refine ⟨by omega, fun q v hv => ?_⟩
    rw [vin_tn] at hv
    rcases hv with z | z | z
    · exact a2 (by omega) v z
    · exact b2 (by omega) v z
    · exact z.elim
  · rw [hg_tn] at hm
    obtain ⟨a1, a2⟩ := ih _ (by omega) a rfl wa (fun v q => hv v (vin_tn.2 (Or.inl q)))
    obtain ⟨b1, b2⟩ := ih _ (by omega) b rfl wb (fun v q => hv v (vin_tn.2 (Or.inr (Or.inl q))))
    have e5 : wl (tn 6 a b tr_0) = 4 + (wl a + 2 * bki 1 a) + (wl b + 2 * bki 0 b) := rfl
    have e0 : sb θ (tn 6 a b tr_0) = tn 6 (sb θ a) (sb θ b) tr_0 := sb_tn
    have e5' : wl (tn 6 (sb θ a) (sb θ b) tr_0) = 4 + (wl (sb θ a) + 2 * bki 1 (sb θ a)) + (wl (sb θ b) + 2 * bki 0 (sb θ b)) := rfl
    have x := bki_sb (θ := θ) (w := 1) wa
    have y := bki_sb (θ := θ) (w := 0) wb
    rw [e0, e5, e5']
    refine ⟨by omega, fun q v hv => ?_⟩
    rw [vin_tn] at hv
    rcases hv with z | z | z
    · exact a2 (by omega) v z
    · exact b2 (by omega) v z
    · exact z.elim
  · rw [hg_tn] at hm
    obtain ⟨a1, a2⟩ := ih _ (by omega) a rfl wa (fun v q => hv v (vin_tn.2 (Or.inl q)))
    have e5 : wl (tn 9 a tr_0 tr_0) = 5 + (wl a + 2 * bki 3 a) := rfl
    have e0 : sb θ (tn 9 a tr_0 tr_0) = tn 9 (sb θ a) tr_0 tr_0 := sb_tn
    have e5' : wl (tn 9 (sb θ a) tr_0 tr_0) = 5 + (wl (sb θ a) + 2 * bki 3 (sb θ a)) := rfl
    have x := bki_sb (θ := θ) (w := 3) wa
    rw [e0, e5, e5']
    refine ⟨by omega, fun q v hv => ?_⟩
    rw [vin_tn] at hv
    rcases hv with z | z | z
    · exact a2 (by omega) v z
    · exact z.elim
    · exact z.elim
theorem inst_wl {a b : tr} (ha : wt a) (hb : wt b) (h : inst a b) : wl a ≤ wl b := by
  obtain ⟨θ, rfl⟩ := h
  exact (wl_sb _ a rfl ha fun v hv => wt_in _ a rfl ha hb hv).1
theorem wl_sbv {μ : Nat → Nat} {e : tr} (h : wt e) : wl (sb (fun v => .var (μ v)) e) = wl e := by
  have gen : ∀ (m : Nat) (e : tr), hg e = m → wt e → wl (sb (fun v => .var (μ v)) e) = wl e := by
    intro m
    induction m using Nat.strongRecOn with
    | ind m ih =>
    intro e hm h
    have bk : ∀ w e, wt e → bki w (sb (fun v => .var (μ v)) e) = bki w e := fun w e h => by unfold bki; rw [brk_sbv h]
    rcases wt_c h with ⟨w, rfl⟩ | (rfl | rfl) | ⟨a, b, wa, wb, rfl | rfl⟩ | ⟨a, wa, rfl⟩
    · rfl
    · rfl
    · rfl
    · rw [hg_tn] at hm
      show 3 + (wl (sb _ a) + 2 * bki 2 (sb _ a)) + (wl (sb _ b) + 2 * bki 2 (sb _ b)) = 3 + (wl a + 2 * bki 2 a) + (wl b + 2 * bki 2 b)
      rw [ih _ (by omega) a rfl wa, ih _ (by omega) b rfl wb, bk 2 a wa, bk 2 b wb]
    · rw [hg_tn] at hm
      show 4 + (wl (sb _ a) + 2 * bki 1 (sb _ a)) + (wl (sb _ b) + 2 * bki 0 (sb _ b)) = 4 + (wl a + 2 * bki 1 a) + (wl b + 2 * bki 0 b)
      rw [ih _ (by omega) a rfl wa, ih _ (by omega) b rfl wb, bk 1 a wa, bk 0 b wb]
    · rw [hg_tn] at hm
      show 5 + (wl (sb _ a) + 2 * bki 3 (sb _ a)) = 5 + (wl a + 2 * bki 3 a)
      rw [ih _ (by omega) a rfl wa, bk 3 a wa]
  exact gen _ e rfl h
/-- the text tells the letters -/
theorem prt_inj {L L' : Nat → Nat} : ∀ (m : Nat) (e : tr), hg e = m → wt e → prt (sb (fun v => .var (L v)) e) = prt (sb (fun v => .var (L' v)) e) → ∀ v, vin v e → L v = L' v := by
  intro m
  induction m using Nat.strongRecOn with
  | ind m ih =>
  intro e hm h q v hv
  have lenE : ∀ (e : tr), wt e → (prt (sb (fun v => .var (L v)) e)).length = (prt (sb (fun v => .var (L' v)) e)).length := fun e h => by
    have a1 := (prt_len _ (sb (fun v => .var (L v)) e) rfl (wt_sb _ _ rfl h fun _ _ => True.intro)).1
    have a2 := (prt_len _ (sb (fun v => .var (L' v)) e) rfl (wt_sb _ _ rfl h fun _ _ => True.intro)).1
    rw [wl_sbv h] at a1 a2
    omega
  have wr : ∀ (w : Nat) (e : tr), wt e → ∀ (r r' : List Int), wrp (brk w e) (prt (sb (fun v => .var (L v)) e)) ++ r = wrp (brk w e) (prt (sb (fun v => .var (L' v)) e)) ++ r' → prt (sb (fun v => .var (L v)) e) = prt (sb (fun v => .var (L' v)) e) ∧ r = r' := fun w e h r r' q => by
    have l := lenE e h
    obtain ⟨q1, q2⟩ := List.append_inj q (by unfold wrp; split <;> simp [l])
    refine ⟨?_, q2⟩
    unfold wrp at q1
    split at q1
    · injection q1 with _ q1
      exact (List.append_inj q1 l).1
    · exact q1
  rcases wt_c h with ⟨w, rfl⟩ | (rfl | rfl) | ⟨a, b, wa, wb, rfl | rfl⟩ | ⟨a, wa, rfl⟩
  · have hv' : w = v := hv
    subst hv'
    have q' : [39, 97 + ((L w : Nat) : Int)] = [39, 97 + ((L' w : Nat) : Int)] := q
    injection q' with _ q'
    injection q' with q' _
    omega
  · rw [vin_tn] at hv; rcases hv with z | z | z <;> exact z.elim
  · rw [vin_tn] at hv; rcases hv with z | z | z <;> exact z.elim
  · rw [hg_tn] at hm
    have e0 : ∀ L : Nat → Nat, sb (fun v => .var (L v)) (tn 5 a b tr_0) = tn 5 (sb (fun v => .var (L v)) a) (sb (fun v => .var (L v)) b) tr_0 := fun L => sb_tn
    rw [e0, e0, prt_5, prt_5, brk_sbv wa, brk_sbv wb, brk_sbv wa, brk_sbv wb] at q
    obtain ⟨qa, q⟩ := wr 2 a wa _ _ q
    have q := List.append_cancel_left q
    obtain ⟨qb, -⟩ := wr 2 b wb [] [] (by rw [List.append_nil, List.append_nil]; exact q)
    rw [vin_tn] at hv
    rcases hv with z | z | z
    · exact ih _ (by omega) a rfl wa qa v z
    · exact ih _ (by omega) b rfl wb qb v z
    · exact z.elim
  · rw [hg_tn] at hm
    have e0 : ∀ L : Nat → Nat, sb (fun v => .var (L v)) (tn 6 a b tr_0) = tn 6 (sb (fun v => .var (L v)) a) (sb (fun v => .var (L v)) b) tr_0 := fun L => sb_tn
    rw [e0, e0, prt_6, prt_6, brk_sbv wa, brk_sbv wb, brk_sbv wa, brk_sbv wb] at q
    obtain ⟨qa, q⟩ := wr 1 a wa _ _ q
    have q := List.append_cancel_left q
    obtain ⟨qb, -⟩ := wr 0 b wb [] [] (by rw [List.append_nil, List.append_nil]; exact q)
    rw [vin_tn] at hv
    rcases hv with z | z | z
    · exact ih _ (by omega) a rfl wa qa v z
    · exact ih _ (by omega) b rfl wb qb v z
    · exact z.elim
  · rw [hg_tn] at hm
    have e0 : ∀ L : Nat → Nat, sb (fun v => .var (L v)) (tn 9 a tr_0 tr_0) = tn 9 (sb (fun v => .var (L v)) a) tr_0 tr_0 := fun L => sb_tn
    rw [e0, e0, prt_9, prt_9, brk_sbv wa, brk_sbv wa] at q
    have q := List.append_cancel_left (List.append_cancel_left q)
    obtain ⟨qa, -⟩ := wr 3 a wa [] [] (by rw [List.append_nil, List.append_nil]; exact q)
    rw [vin_tn] at hv
    rcases hv with z | z | z
    · exact ih _ (by omega) a rfl wa qa v z
    · exact z.elim
    · exact z.elim
/-- an instance that is written alike is a renaming -/
theorem txt_conv {a b : tr} (ha : wt a) (hb : wt b) (h : inst a b) (q : txt a = txt b) : REN a b := by
  obtain ⟨θ, rfl⟩ := h
  have wv : ∀ v, vin v a → wt (θ v) := fun v hv => wt_in _ a rfl ha hb hv
  have hl : wl (sb θ a) = wl a := by rw [← txt_wl, ← txt_wl, q]
  have var := (wl_sb _ a rfl ha wv).2 hl
  classical
  have kx : ∀ v, ∃ w, vin v a → θ v = .var w := fun v => by
    by_cases hv : vin v a
    · obtain ⟨w, hw⟩ := var v hv
      exact ⟨w, fun _ => hw⟩
    · exact ⟨0, fun q => absurd q hv⟩
  have e1 : sb θ a = sb (fun v => .var (kx v).choose) a := sb_ext _ fun v hv => (kx v).choose_spec hv
  refine ⟨fun v => (kx v).choose, e1, fun v w hv hw e => ?_⟩
  rw [txt_prt ha, txt_prt hb] at q
  have q2 : prt (sb (fun v => .var ((vl a).idxOf v)) a) = prt (sb (fun v => .var ((vl (sb θ a)).idxOf (kx v).choose)) a) := by
    rw [q]
    congr 1
    conv => lhs; arg 2; rw [e1]
    rw [sb_sb]
    rfl
  have k1 := prt_inj _ a rfl ha q2 v hv
  have k2 := prt_inj _ a rfl ha q2 w hw
  have e' : (kx v).choose = (kx w).choose := e
  rw [e', ← k2] at k1
  exact idx_inj ((vl_mem ha).2 hv) k1
