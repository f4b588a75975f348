/-! ===== texts and trees: renamings, instances ===== -/
theorem idx_map {μ : Nat → Nat} {v : Nat} : ∀ (vs : List Nat), (∀ w ∈ vs, μ w = μ v → w = v) → (vs.map μ).idxOf (μ v) = vs.idxOf v
  | [], _ => rfl
  | w :: vs, h => by
    rw [List.map_cons, List.idxOf_cons, List.idxOf_cons]
    by_cases e : w = v
    · subst e
      simp
    · have e' : μ w ≠ μ v := fun q => e (h w (List.mem_cons_self) q)
      have b1 : (μ w == μ v) = false := by simpa using e'
      have b2 : (w == v) = false := by simpa using e
      rw [b1, b2, idx_map vs fun u hu => h u (List.mem_cons_of_mem _ hu)]
theorem idx_inj {vs : List Nat} {v w : Nat} (hv : v ∈ vs) (e : vs.idxOf v = vs.idxOf w) : v = w := by
  have h1 := List.idxOf_lt_length_iff.mpr hv
  have a := List.getElem_idxOf h1
  have h2 : vs.idxOf w < vs.length := by rw [← e]; exact h1
  have b := List.getElem_idxOf h2
  have : vs[vs.idxOf v] = vs[vs.idxOf w] := by simp only [e]
  rw [a, b] at this
  exact this
theorem idx_app {ws : List Nat} {v : Nat} : ∀ (vs : List Nat), v ∈ vs → (vs ++ ws).idxOf v = vs.idxOf v
  | [], h => absurd h List.not_mem_nil
  | u :: vs, h => by
    rw [List.cons_append, List.idxOf_cons, List.idxOf_cons]
    by_cases e : u = v
    · subst e
      simp
    · have b2 : (u == v) = false := by simpa using e
      rw [b2, idx_app vs ((List.mem_cons.mp h).resolve_left fun q => e q.symm)]
theorem idx_new {ws : List Nat} {v : Nat} : ∀ (vs : List Nat), v ∉ vs → (vs ++ (v :: ws)).idxOf v = vs.length
  | [], _ => by
    rw [List.nil_append, List.idxOf_cons]
    simp
  | u :: vs, h => by
    rw [List.cons_append, List.idxOf_cons]
    have e : u ≠ v := fun q => h (q ▸ List.mem_cons_self)
    have b2 : (u == v) = false := by simpa using e
    rw [b2, idx_new vs fun q => h (List.mem_cons_of_mem _ q)]
    rfl
/-- which marks are met -/
theorem tbt_mem {v : Nat} : ∀ (m : Nat) (e : tr), hg e = m → wt e → ∀ vs : List Nat, v ∈ (tbt vs e).2 ↔ v ∈ vs ∨ vin v e := by
  intro m
  induction m using Nat.strongRecOn with
  | ind m ih =>
  intro e hm h vs
  have two : ∀ t : Int, (t = 5 ∨ t = 6) → ∀ a b, hg (tn t a b tr_0) = m → wt a → wt b → (v ∈ (tbt vs (tn t a b tr_0)).2 ↔ v ∈ vs ∨ vin v (tn t a b tr_0)) := fun t ht a b hm wa wb => by
    rw [hg_tn] at hm
    have e2 : (tbt vs (tn t a b tr_0)).2 = (tbt (tbt vs a).2 b).2 := by
      rw [tbt_tn]
      rcases ht with rfl | rfl <;> rfl
    rw [e2, ih _ (by omega) b rfl wb, ih _ (by omega) a rfl wa, vin_tn]
    have z : ¬ vin v tr_0 := fun q => q.elim
    exact ⟨fun q => by rcases q with (q | q) | q; exact Or.inl q; exact Or.inr (Or.inl q); exact Or.inr (Or.inr (Or.inl q)), fun q => by rcases q with q | q | q | q; exact Or.inl (Or.inl q); exact Or.inl (Or.inr q); exact Or.inr q; exact absurd q z⟩
  rcases wt_c h with ⟨w, rfl⟩ | (rfl | rfl) | ⟨a, b, wa, wb, rfl | rfl⟩ | ⟨a, wa, rfl⟩
  · show v ∈ (ix vs w).2 ↔ v ∈ vs ∨ w = v
    unfold ix
    split
    · rename_i hw
      exact ⟨Or.inl, fun q => q.elim id (fun e => e ▸ hw)⟩
    · rw [List.mem_append, List.mem_singleton]
      exact ⟨fun q => q.imp id Eq.symm, fun q => q.imp id Eq.symm⟩
  · show v ∈ vs ↔ _
    rw [vin_tn]
    exact ⟨Or.inl, fun q => q.elim id (fun z => by rcases z with z | z | z <;> exact z.elim)⟩
  · show v ∈ vs ↔ _
    rw [vin_tn]
    exact ⟨Or.inl, fun q => q.elim id (fun z => by rcases z with z | z | z <;> exact z.elim)⟩
  · exact two 5 (Or.inl rfl) a b hm wa wb
  · exact two 6 (Or.inr rfl) a b hm wa wb
  · rw [hg_tn] at hm
    show v ∈ (tbt vs a).2 ↔ _
    rw [ih _ (by omega) a rfl wa, vin_tn]
    exact ⟨fun q => q.imp id Or.inl, fun q => q.imp id (fun z => by rcases z with z | z | z; exact z; exact z.elim; exact z.elim)⟩
theorem tbt_nd : ∀ (m : Nat) (e : tr), hg e = m → wt e → ∀ vs : List Nat, vs.Nodup → (tbt vs e).2.Nodup := by
  intro m
  induction m using Nat.strongRecOn with
  | ind m ih =>
  intro e hm h vs nd
  rcases wt_c h with ⟨w, rfl⟩ | (rfl | rfl) | ⟨a, b, wa, wb, rfl | rfl⟩ | ⟨a, wa, rfl⟩
  · show (ix vs w).2.Nodup
    unfold ix
    split
    · exact nd
    · rename_i hw
      rw [List.nodup_append]
      refine ⟨nd, by simp, fun a ha b hb => ?_⟩
      rw [List.mem_singleton] at hb
      rw [hb]
      exact fun q => hw (q ▸ ha)
  · exact nd
  · exact nd
  · rw [hg_tn] at hm
    exact ih _ (by omega) b rfl wb _ (ih _ (by omega) a rfl wa _ nd)
  · rw [hg_tn] at hm
    exact ih _ (by omega) b rfl wb _ (ih _ (by omega) a rfl wa _ nd)
  · rw [hg_tn] at hm
    exact ih _ (by omega) a rfl wa _ nd
theorem brk_sbv {μ : Nat → Nat} {w : Nat} {e : tr} (h : wt e) : brk w (sb (fun v => .var (μ v)) e) = brk w e := by
  rcases wt_c h with ⟨v, rfl⟩ | (rfl | rfl) | ⟨a, b, wa, wb, rfl | rfl⟩ | ⟨a, wa, rfl⟩
  · rfl
  · rfl
  · rfl
  · rw [sb_tn, brk_tn, brk_tn]
  · rw [sb_tn, brk_tn, brk_tn]
  · rw [sb_tn, brk_tn, brk_tn]
/-- a renaming changes no byte -/
theorem tbt_ren {μ : Nat → Nat} : ∀ (m : Nat) (e : tr), hg e = m → wt e → ∀ vs : List Nat, (∀ v w, (v ∈ vs ∨ vin v e) → (w ∈ vs ∨ vin w e) → μ v = μ w → v = w) → tbt (vs.map μ) (sb (fun v => .var (μ v)) e) = ((tbt vs e).1, (tbt vs e).2.map μ) := by
  intro m
  induction m using Nat.strongRecOn with
  | ind m ih =>
  intro e hm h vs inj
  rcases wt_c h with ⟨w, rfl⟩ | (rfl | rfl) | ⟨a, b, wa, wb, rfl | rfl⟩ | ⟨a, wa, rfl⟩
  · have hmem : μ w ∈ vs.map μ ↔ w ∈ vs := by
      rw [List.mem_map]
      exact ⟨fun ⟨u, hu, e⟩ => (inj u w (Or.inl hu) (Or.inr rfl) e) ▸ hu, fun q => ⟨w, q, rfl⟩⟩
    have hix : ix (vs.map μ) (μ w) = ((ix vs w).1, (ix vs w).2.map μ) := by
      unfold ix
      by_cases q : w ∈ vs
      · rw [if_pos q, if_pos (hmem.2 q), idx_map vs fun u hu e => inj u w (Or.inl hu) (Or.inr rfl) e]
      · rw [if_neg q, if_neg (fun z => q (hmem.1 z))]
        simp
    show ([39, 97 + ((ix (vs.map μ) (μ w)).1 : Int)], (ix (vs.map μ) (μ w)).2) = _
    rw [hix]
    rfl
  · rfl
  · rfl
  · rw [hg_tn] at hm
    have A := ih _ (by omega) a rfl wa vs (fun v w hv hw => inj v w (hv.imp id (fun q => vin_tn.2 (Or.inl q))) (hw.imp id (fun q => vin_tn.2 (Or.inl q))))
    have B := ih _ (by omega) b rfl wb (tbt vs a).2 (fun v w hv hw => by
      rw [tbt_mem _ a rfl wa] at hv hw
      refine inj v w ?_ ?_
      · rcases hv with (q | q) | q
        · exact Or.inl q
        · exact Or.inr (vin_tn.2 (Or.inl q))
        · exact Or.inr (vin_tn.2 (Or.inr (Or.inl q)))
      · rcases hw with (q | q) | q
        · exact Or.inl q
        · exact Or.inr (vin_tn.2 (Or.inl q))
        · exact Or.inr (vin_tn.2 (Or.inr (Or.inl q))))
    have e0 : sb (fun v => .var (μ v)) (tn 5 a b tr_0) = tn 5 (sb (fun v => .var (μ v)) a) (sb (fun v => .var (μ v)) b) tr_0 := sb_tn
    rw [e0, tbt_tn, tbt_tn]
    simp only [A, B, brk_sbv wa, brk_sbv wb]
    rfl
  · rw [hg_tn] at hm
    have A := ih _ (by omega) a rfl wa vs (fun v w hv hw => inj v w (hv.imp id (fun q => vin_tn.2 (Or.inl q))) (hw.imp id (fun q => vin_tn.2 (Or.inl q))))
    have B := ih _ (by omega) b rfl wb (tbt vs a).2 (fun v w hv hw => by
      rw [tbt_mem _ a rfl wa] at hv hw
      refine inj v w ?_ ?_
      · rcases hv with (q | q) | q
        · exact Or.inl q
        · exact Or.inr (vin_tn.2 (Or.inl q))
        · exact Or.inr (vin_tn.2 (Or.inr (Or.inl q)))
      · rcases hw with (q | q) | q
        · exact Or.inl q
        · exact Or.inr (vin_tn.2 (Or.inl q))
        · exact Or.inr (vin_tn.2 (Or.inr (Or.inl q))))
    have e0 : sb (fun v => .var (μ v)) (tn 6 a b tr_0) = tn 6 (sb (fun v => .var (μ v)) a) (sb (fun v => .var (μ v)) b) tr_0 := sb_tn
    rw [e0, tbt_tn, tbt_tn]
    simp only [A, B, brk_sbv wa, brk_sbv wb]
    rfl
  · rw [hg_tn] at hm
    have A := ih _ (by omega) a rfl wa vs (fun v w hv hw => inj v w (hv.imp id (fun q => vin_tn.2 (Or.inl q))) (hw.imp id (fun q => vin_tn.2 (Or.inl q))))
    have e0 : sb (fun v => .var (μ v)) (tn 9 a tr_0 tr_0) = tn 9 (sb (fun v => .var (μ v)) a) tr_0 tr_0 := sb_tn
    rw [e0, tbt_tn, tbt_tn]
    simp only [A, brk_sbv wa]
    rfl
/-- the text that is written, and the marks in their order -/
def txt (e : tr) : List Int := (tbt [] e).1
def vl (e : tr) : List Nat := (tbt [] e).2
theorem vl_mem {e : tr} (h : wt e) {v : Nat} : v ∈ vl e ↔ vin v e := by
  unfold vl
  rw [tbt_mem _ e rfl h]
  exact ⟨fun q => q.elim (fun z => absurd z List.not_mem_nil) id, Or.inr⟩
theorem vl_nd {e : tr} (h : wt e) : (vl e).Nodup := tbt_nd _ e rfl h [] List.nodup_nil
theorem txt_ren {e t : tr} (h : wt e) (r : REN e t) : txt t = txt e ∧ (vl t).length = (vl e).length := by
  obtain ⟨μ, rfl, inj⟩ := r
  have := tbt_ren (μ := μ) _ e rfl h [] (fun v w hv hw => inj v w (hv.resolve_left List.not_mem_nil) (hw.resolve_left List.not_mem_nil))
  unfold txt vl
  rw [List.map_nil] at this
  rw [this]
  exact ⟨rfl, by simp⟩
theorem txt_wl (e : tr) : ((txt e).length : Int) = wl e := tbt_wl e []
/-- with its marks' places as letters, it is the text -/
theorem tbt_prt {W : List Nat} : ∀ (m : Nat) (e : tr), hg e = m → wt e → ∀ vs : List Nat, (∃ r, W = (tbt vs e).2 ++ r) → (tbt vs e).1 = prt (sb (fun v => .var (W.idxOf v)) e) ∧ ∃ r, (tbt vs e).2 = vs ++ r := by
  intro m
  induction m using Nat.strongRecOn with
  | ind m ih =>
  intro e hm h vs hW
  rcases wt_c h with ⟨w, rfl⟩ | (rfl | rfl) | ⟨a, b, wa, wb, rfl | rfl⟩ | ⟨a, wa, rfl⟩
  · obtain ⟨r, hr⟩ := hW
    have hr' : W = (ix vs w).2 ++ r := hr
    show [39, 97 + ((ix vs w).1 : Int)] = [39, 97 + ((W.idxOf w : Nat) : Int)] ∧ ∃ r, (ix vs w).2 = vs ++ r
    unfold ix at hr' ⊢
    by_cases q : w ∈ vs
    · rw [if_pos q] at hr' ⊢
      rw [hr', idx_app _ q]
      exact ⟨rfl, [], by simp⟩
    · rw [if_neg q] at hr' ⊢
      rw [hr', List.append_assoc]
      refine ⟨?_, [w], rfl⟩
      show _ = [39, 97 + (((vs ++ (w :: r)).idxOf w : Nat) : Int)]
      rw [idx_new _ q]
  · exact ⟨rfl, [], by simp [tbt_tn]⟩
  · exact ⟨rfl, [], by simp [tbt_tn]⟩
  · rw [hg_tn] at hm
    have e2 : (tbt vs (tn 5 a b tr_0)).2 = (tbt (tbt vs a).2 b).2 := by rw [tbt_tn]; rfl
    rw [e2] at hW
    obtain ⟨b1, rb, b2⟩ := ih _ (by omega) b rfl wb (tbt vs a).2 hW
    obtain ⟨r, hr⟩ := hW
    obtain ⟨a1, ra, a2⟩ := ih _ (by omega) a rfl wa vs ⟨rb ++ r, by rw [hr, b2, List.append_assoc]⟩
    refine ⟨?_, ra ++ rb, by rw [e2, b2, a2, List.append_assoc]⟩
    have e0 : sb (fun v => .var (W.idxOf v)) (tn 5 a b tr_0) = tn 5 (sb (fun v => .var (W.idxOf v)) a) (sb (fun v => .var (W.idxOf v)) b) tr_0 := sb_tn
    rw [e0, prt_5, brk_sbv wa, brk_sbv wb, ← a1, ← b1, tbt_tn]
    rfl
  · rw [hg_tn] at hm
    have e2 : (tbt vs (tn 6 a b tr_0)).2 = (tbt (tbt vs a).2 b).2 := by rw [tbt_tn]; rfl
    rw [e2] at hW
    obtain ⟨b1, rb, b2⟩ := ih _ (by omega) b rfl wb (tbt vs a).2 hW
    obtain ⟨r, hr⟩ := hW
    obtain ⟨a1, ra, a2⟩ := ih _ (by omega) a rfl wa vs ⟨rb ++ r, by rw [hr, b2, List.append_assoc]⟩
    refine ⟨?_, ra ++ rb, by rw [e2, b2, a2, List.append_assoc]⟩
    have e0 : sb (fun v => .var (W.idxOf v)) (tn 6 a b tr_0) = tn 6 (sb (fun v => .var (W.idxOf v)) a) (sb (fun v => .var (W.idxOf v)) b) tr_0 := sb_tn
    rw [e0, prt_6, brk_sbv wa, brk_sbv wb, ← a1, ← b1, tbt_tn]
    rfl
  · rw [hg_tn] at hm
    have e2 : (tbt vs (tn 9 a tr_0 tr_0)).2 = (tbt vs a).2 := by rw [tbt_tn]; rfl
    rw [e2] at hW
    obtain ⟨a1, ra, a2⟩ := ih _ (by omega) a rfl wa vs hW
    refine ⟨?_, ra, by rw [e2, a2]⟩
    have e0 : sb (fun v => .var (W.idxOf v)) (tn 9 a tr_0 tr_0) = tn 9 (sb (fun v => .var (W.idxOf v)) a) tr_0 tr_0 := sb_tn
    rw [e0, prt_9, brk_sbv wa, ← a1, tbt_tn]
    rfl
theorem txt_prt {e : tr} (h : wt e) : txt e = prt (sb (fun v => .var ((vl e).idxOf v)) e) := (tbt_prt (W := vl e) _ e rfl h [] ⟨[], by simp [vl]⟩).1
