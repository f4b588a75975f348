/-! ===== more locals that are known change no run ===== -/
/-- l' knows what l knows -/
def mi_lw_ (l l' : mi_L) : Prop := l.Pairwise (fun a b => a.1 ≠ b.1) ∧ ∀ k v, mi_look l k = some v → mi_look l' k = some v
theorem mi_look_in {l : mi_L} {k : Nat} {v : Value} (hn : l.Pairwise (fun a b => a.1 ≠ b.1)) (h : (k, v) ∈ l) : mi_look l k = some v := by
  induction l with
  | nil => cases h
  | cons q l ih =>
    unfold mi_look
    rw [List.pairwise_cons] at hn
    rcases List.mem_cons.mp h with e | h2
    · subst e
      simp
    · have := hn.1 _ h2
      simp only at this
      rw [if_neg (by simpa using this)]
      exact ih hn.2 h2
theorem mi_look_mem {l : mi_L} {k : Nat} {v : Value} (h : mi_look l k = some v) : (k, v) ∈ l := by
  induction l with
  | nil => cases h
  | cons q l ih =>
    unfold mi_look at h
    split at h
    next e =>
      cases h
      have : q.1 = k := by simpa using e
      subst this
      exact List.mem_cons_self
    next => exact List.mem_cons_of_mem _ (ih h)
theorem mi_look_f {l : mi_L} {p : Nat × Value → Bool} {k : Nat} {v : Value} (h : mi_look l k = some v) (hp : p (k, v) = true) : mi_look (l.filter p) k = some v := by
  induction l with
  | nil => cases h
  | cons q l ih =>
    unfold mi_look at h
    split at h
    next e =>
      cases h
      have : q.1 = k := by simpa using e
      subst this
      rw [List.filter_cons_of_pos hp]
      unfold mi_look
      simp
    next e =>
      by_cases hq : p q = true
      · rw [List.filter_cons_of_pos hq]
        unfold mi_look
        rw [if_neg e]
        exact ih h
      · rw [List.filter_cons_of_neg hq]
        exact ih h
theorem mi_lw_f {l l' : mi_L} (p : Nat × Value → Bool) (i : Nat) (v : Value) (hp : ∀ w, p (i, w) = false) (h : mi_lw_ l l') : mi_lw_ ((i, v) :: l.filter p) ((i, v) :: l'.filter p) := by
  refine ⟨List.pairwise_cons.mpr ⟨fun q hq => ?_, h.1.filter _⟩, fun k w hk => ?_⟩
  · have := (List.mem_filter.mp hq).2
    intro e
    obtain ⟨a, b⟩ := q
    dsimp only at e
    subst e
    rw [hp b] at this
    cases this
  · unfold mi_look at hk ⊢
    split at hk
    next e => rw [if_pos e]; exact hk
    next e =>
      rw [if_neg e]
      have hm := List.mem_filter.mp (mi_look_mem hk)
      exact mi_look_f (h.2 _ _ (mi_look_in h.1 hm.1)) hm.2
def mi_nr (l l' : mi_L) (a b : mi_P) : Prop := (a = none ∧ b = none) ∨ ∃ p s, a = some (p, l, s) ∧ b = some (p, l', s)
section LW
variable {l l' : mi_L} {st : List Value} {pc : Nat}
theorem nr_n : mi_nr l l' none none := Or.inl ⟨rfl, rfl⟩
theorem nr_s {p : Nat} {s : List Value} : mi_nr l l' (some (p, l, s)) (some (p, l', s)) := Or.inr ⟨p, s, rfl, rfl⟩
theorem nr_if {c : Prop} [Decidable c] {a b a' b' : mi_P} (h : mi_nr l l' a b) (h' : mi_nr l l' a' b') : mi_nr l l' (if c then a else a') (if c then b else b') := by
  split
  · exact h
  · exact h'
theorem nr_ii {f : Int32 → Int32 → Option Value} : mi_nr l l' (mi_ii f pc l st) (mi_ii f pc l' st) := by
  unfold mi_ii
  split
  · split
    · exact nr_s
    · exact nr_n
  · exact nr_n
theorem nr_ll {f : Int64 → Int64 → Option Value} : mi_nr l l' (mi_ll f pc l st) (mi_ll f pc l' st) := by
  unfold mi_ll
  split
  · split
    · exact nr_s
    · exact nr_n
  · exact nr_n
theorem nr_dd {f : UInt64 → UInt64 → Option Value} : mi_nr l l' (mi_dd f pc l st) (mi_dd f pc l' st) := by
  unfold mi_dd
  split
  · split
    · exact nr_s
    · exact nr_n
  · exact nr_n
theorem nr_li {f : Int64 → Int32 → Value} : mi_nr l l' (mi_li f pc l st) (mi_li f pc l' st) := by
  unfold mi_li
  split
  · exact nr_s
  · exact nr_n
theorem nr_i1 {f : Int32 → Value} : mi_nr l l' (mi_i1 f pc l st) (mi_i1 f pc l' st) := by
  unfold mi_i1
  split
  · exact nr_s
  · exact nr_n
theorem nr_l1 {f : Int64 → Value} : mi_nr l l' (mi_l1 f pc l st) (mi_l1 f pc l' st) := by
  unfold mi_l1
  split
  · exact nr_s
  · exact nr_n
theorem nr_c1 {f : Int32 → Bool} {off : Int} : mi_nr l l' (mi_c1 f pc off l st) (mi_c1 f pc off l' st) := by
  unfold mi_c1
  split
  · split
    · exact nr_s
    · exact nr_n
  · exact nr_n
theorem nr_c2 {f : Int32 → Int32 → Bool} {off : Int} : mi_nr l l' (mi_c2 f pc off l st) (mi_c2 f pc off l' st) := by
  unfold mi_c2
  split
  · split
    · exact nr_s
    · exact nr_n
  · exact nr_n
theorem nr_goto {off : Int} : mi_nr l l' (mi_goto pc off l st) (mi_goto pc off l' st) := by
  unfold mi_goto
  split
  · exact nr_s
  · exact nr_n
theorem nr_nul {b : Bool} {off : Int} : mi_nr l l' (mi_nul b pc off l st) (mi_nul b pc off l' st) := by
  unfold mi_nul
  split
  · exact nr_if nr_goto nr_s
  · exact nr_if nr_s nr_goto
  · exact nr_if nr_s nr_goto
  · exact nr_n
theorem nr_dup : mi_nr l l' (mi_dup pc l st) (mi_dup pc l' st) := by
  unfold mi_dup
  split
  · exact nr_if nr_s nr_n
  · exact nr_n
theorem nr_pop : mi_nr l l' (mi_pop pc l st) (mi_pop pc l' st) := by
  unfold mi_pop
  split
  · exact nr_if nr_s nr_n
  · exact nr_n
theorem nr_pop2 : mi_nr l l' (mi_pop2 pc l st) (mi_pop2 pc l' st) := by
  unfold mi_pop2
  split
  · exact nr_if nr_s nr_n
  · exact nr_n
theorem nr_dupx1 : mi_nr l l' (mi_dupx1 pc l st) (mi_dupx1 pc l' st) := by
  unfold mi_dupx1
  split
  · exact nr_if nr_s nr_n
  · exact nr_n
theorem nr_dup2 : mi_nr l l' (mi_dup2 pc l st) (mi_dup2 pc l' st) := by
  unfold mi_dup2
  split
  · refine nr_if nr_s ?_
    split
    · exact nr_if nr_s nr_n
    · exact nr_n
  · exact nr_n
theorem nr_tab {d lo hi : Int} {offs : Array Int} : mi_nr l l' (mi_tab d lo hi offs pc l st) (mi_tab d lo hi offs pc l' st) := by
  unfold mi_tab
  split
  · refine nr_if nr_goto ?_
    split
    · exact nr_goto
    · exact nr_n
  · exact nr_n
theorem nr_lku {d : Int} {ps : Array (Int × Int)} : mi_nr l l' (mi_lku d ps pc l st) (mi_lku d ps pc l' st) := by
  unfold mi_lku
  split
  · exact nr_if nr_goto nr_n
  · exact nr_n
/-- what an instruction that reads or writes locals does -/
theorem lw_ld {ok : Value → Bool} {k p : Nat} {z : Nat × mi_L × List Value} (R : mi_lw_ l l') (h : mi_ld ok k p l st = some z) : ∃ m, mi_ld ok k p l' st = some (z.1, m, z.2.2) ∧ mi_lw_ z.2.1 m := by
  unfold mi_ld at h ⊢
  split at h
  next v hv =>
    rw [R.2 _ _ hv]
    dsimp only
    split at h
    next ho => cases h; rw [if_pos ho]; exact ⟨l', rfl, R⟩
    next => cases h
  next => cases h
theorem lw_st {ok : Value → Bool} {nL k p : Nat} {z : Nat × mi_L × List Value} (R : mi_lw_ l l') (h : mi_st ok nL k p l st = some z) : ∃ m, mi_st ok nL k p l' st = some (z.1, m, z.2.2) ∧ mi_lw_ z.2.1 m := by
  unfold mi_st at h ⊢
  split at h
  next v r =>
    split at h
    next ho =>
      cases h
      dsimp only
      rw [if_pos ho]
      exact ⟨_, rfl, mi_lw_f _ k v (fun w => by simp) R⟩
    next => cases h
  next => cases h
theorem lw_st2 {ok : Value → Bool} {nL k p : Nat} {z : Nat × mi_L × List Value} (R : mi_lw_ l l') (h : mi_st2 ok nL k p l st = some z) : ∃ m, mi_st2 ok nL k p l' st = some (z.1, m, z.2.2) ∧ mi_lw_ z.2.1 m := by
  unfold mi_st2 at h ⊢
  split at h
  next v r =>
    split at h
    next ho =>
      cases h
      dsimp only
      rw [if_pos ho]
      exact ⟨_, rfl, mi_lw_f _ k v (fun w => by simp) R⟩
    next => cases h
  next => cases h
theorem lw_inc {nL k p : Nat} {n : Int} {z : Nat × mi_L × List Value} (R : mi_lw_ l l') (h : mi_iinc nL k n p l st = some z) : ∃ m, mi_iinc nL k n p l' st = some (z.1, m, z.2.2) ∧ mi_lw_ z.2.1 m := by
  unfold mi_iinc at h ⊢
  split at h
  next x hv =>
    rw [R.2 _ _ hv]
    dsimp only
    split at h
    next ho =>
      cases h
      rw [if_pos ho]
      exact ⟨_, rfl, mi_lw_f _ k _ (fun w => by simp) R⟩
    next => cases h
  next => cases h
end LW
def mi_lop : Instr → Bool
  | .iload _ => true
  | .iload_n _ => true
  | .lload _ => true
  | .lload_n _ => true
  | .dload _ => true
  | .dload_n _ => true
  | .aload _ => true
  | .aload_n _ => true
  | .istore _ => true
  | .istore_n _ => true
  | .astore _ => true
  | .astore_n _ => true
  | .lstore _ => true
  | .lstore_n _ => true
  | .dstore _ => true
  | .dstore_n _ => true
  | .iinc _ _ => true
  | _ => false
theorem mi_pure_nl {l l' : mi_L} {st : List Value} {pc nL len : Nat} {i : Instr} (h : mi_lop i = false) : mi_nr l l' (mi_pure nL len i pc l st) (mi_pure nL len i pc l' st) := by
  cases i
  all_goals first
    | exact absurd (show true = false from h) (by decide)
    | exact nr_tab
    | exact nr_lku
    | (refine nr_if ?_ nr_n
       dsimp only [mi_pu]
       first
        | exact nr_n
        | exact nr_s
        | exact nr_ii
        | exact nr_ll
        | exact nr_i1
        | exact nr_l1
        | exact nr_c1
        | exact nr_c2
        | exact nr_goto
        | exact nr_nul
        | exact nr_dup
        | exact nr_pop
        | exact nr_pop2
        | exact nr_dupx1
        | exact nr_dup2
        | exact nr_li
        | exact nr_dd)
theorem lw_if {l l' : mi_L} {c : Prop} [Decidable c] {a b : mi_P} {z : Nat × mi_L × List Value} (h : (if c then a else none) = some z) (k : a = some z → ∃ m, b = some (z.1, m, z.2.2) ∧ mi_lw_ z.2.1 m) : ∃ m, (if c then b else none) = some (z.1, m, z.2.2) ∧ mi_lw_ z.2.1 m := by
  split at h
  next hc => rw [if_pos hc]; exact k h
  next => cases h
theorem mi_pure_lo {l l' : mi_L} {st : List Value} {pc nL len : Nat} {i : Instr} {z : Nat × mi_L × List Value} (hl : mi_lop i = true) (R : mi_lw_ l l') (h : mi_pure nL len i pc l st = some z) : ∃ m, mi_pure nL len i pc l' st = some (z.1, m, z.2.2) ∧ mi_lw_ z.2.1 m := by
  cases i
  all_goals first
    | exact absurd (show false = true from hl) (by decide)
    | exact lw_if (l := l) (l' := l') h (fun q => lw_ld R q)
    | exact lw_if (l := l) (l' := l') h (fun q => lw_st R q)
    | exact lw_if (l := l) (l' := l') h (fun q => lw_st2 R q)
    | exact lw_if (l := l) (l' := l') h (fun q => lw_inc R q)
theorem mi_lop_no {X : mi_X} {M : mi_M} {i : Instr} {pc c s : Nat} {st : List Value} {h : mi_H} (hl : mi_lop i = true) : mi_ret M i st = none ∧ mi_mem X M i pc st h c s = none ∧ mi_easy M i st = none ∧ mi_cal M i st h = none := by
  cases i
  all_goals first
    | exact absurd (show false = true from hl) (by decide)
    | exact ⟨rfl, rfl, rfl, rfl⟩
    | (refine ⟨?_, ?_, ?_, ?_⟩ <;> first | rfl | (unfold mi_ret; split <;> simp_all) | (unfold mi_easy; split <;> simp_all))
theorem mi_run_lw {X : mi_X} : ∀ (n d : Nat) (M : mi_M) (pc : Nat) (l l' : mi_L) (st : List Value) (h : mi_H) (c s : Nat) (r : mi_Z), mi_lw_ l l' → mi_run X n d M pc l st h c s = some r → mi_run X n d M pc l' st h c s = some r
  | 0, _, _, _, _, _, _, _, _, _, _, _, hr => by
    rw [mi_run_0] at hr
    cases hr
  | n + 1, d, M, pc, l, l', st, h, c, s, r, R, hr => by
    have ih := @mi_run_lw X n
    unfold mi_run at hr ⊢
    split at hr
    next t ht =>
      try simp only [ht]
      exact hr
    next ht =>
      try simp only [ht]
      split at hr
      next => cases hr
      next i len hi =>
        try simp only [hi]
        by_cases hlo : mi_lop i = true
        · obtain ⟨q1, q2, q3, q4⟩ := @mi_lop_no X M i pc c s st h hlo
          split at hr
          next pc' l2 st' hp =>
            obtain ⟨m, e1, R2⟩ := mi_pure_lo hlo R hp
            dsimp only at e1 R2
            rw [e1]
            exact ih _ _ _ _ _ _ _ _ _ _ R2 hr
          next hp =>
            exfalso
            simp only [q1, q2, q3, q4] at hr
            split at hr
            next hq => split at hq <;> cases hq
            next =>
              split at hr
              · split at hr <;> cases hr
              · cases hr
        · have hn := mi_pure_nl (l := l) (l' := l') (st := st) (pc := pc) (nL := mi_nL M) (len := len) (by simpa using hlo)
          split at hr
          next pc' l2 st' hp =>
            rcases hn with ⟨e1, e2⟩ | ⟨p, s2, e1, e2⟩
            · rw [hp] at e1; cases e1
            · rw [hp] at e1
              cases e1
              rw [e2]
              exact ih _ _ _ _ _ _ _ _ _ _ R hr
          next hp =>
            have hp' : mi_pure (mi_nL M) len i pc l' st = none := by
              rcases hn with ⟨e1, e2⟩ | ⟨p, s2, e1, e2⟩
              · exact e2
              · rw [hp] at e1; cases e1
            rw [hp']
            dsimp only
            split at hr
            next v hv =>
              try simp only [hv]
              exact hr
            next hv =>
              try simp only [hv]
              split at hr
              next pc' st' h' c' s' hm =>
                try simp only [hm]
                exact ih _ _ _ _ _ _ _ _ _ _ R hr
              next hm =>
                try simp only [hm]
                split at hr
                next h3 =>
                  rw [if_pos h3]
                  split at hr
                  next => cases hr
                  next d' =>
                    split at hr
                    next st' he =>
                      try simp only [he]
                      exact ih _ _ _ _ _ _ _ _ _ _ R hr
                    next he =>
                      try simp only [he]
                      split at hr
                      next => cases hr
                      next M' args rest hcal =>
                        try simp only [hcal]
                        split at hr
                        next => cases hr
                        next v h' c' s' hcr =>
                          try simp only [hcr]
                          exact ih _ _ _ _ _ _ _ _ _ _ R hr
                        next x h' c' s' hcr =>
                          try simp only [hcr]
                          split at hr
                          next p' hp' =>
                            try simp only [hp']
                            exact ih _ _ _ _ _ _ _ _ _ _ R hr
                          next => cases hr
                next => cases hr
theorem mi_wp_lw {X : mi_X} {d : Nat} {M : mi_M} {pc : Nat} {l l' : mi_L} {st : List Value} {h : mi_H} {c s : Nat} {Q : mi_Z → Prop} (R : mi_lw_ l l') (k : mi_wp X d M pc l st h c s Q) : mi_wp X d M pc l' st h c s Q := by
  obtain ⟨n, z, h1, h2⟩ := k
  exact ⟨n, z, mi_run_lw n d M pc l l' st h c s z R h1, h2⟩
/-- the check of a list of locals, for given places -/
def mi_lsub : mi_L → mi_L → Prop
  | [], _ => True
  | q :: l, l' => mi_look l' q.1 = some q.2 ∧ mi_lsub l l'
theorem mi_lw_of {l l' : mi_L} (h1 : (l.map Prod.fst).Nodup) (h2 : mi_lsub l l') : mi_lw_ l l' := by
  refine ⟨List.Pairwise.of_map _ (fun a b e q => e q) h1, fun k v hk => ?_⟩
  have hm := mi_look_mem hk
  clear hk h1
  induction l with
  | nil => cases hm
  | cons q l ih =>
    rcases List.mem_cons.mp hm with e | hm2
    · subst e
      exact h2.1
    · exact ih h2.2 hm2
