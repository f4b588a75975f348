/-! ===== a run that ends in a way that is asked for; single steps of it; what is read of cells ===== -/
/-- object k's field j, if it is of class ci -/
def mi_fv (h : mi_H) (k ci j : Nat) : Option Value := match h[k]? with
  | some (.inr o) => if o.1 = ci then o.2[j]? else none
  | _ => none
/-- array k of ints, bytes or booleans: its kind, its length, what it holds -/
def mi_ai (h : mi_H) (k : Nat) : Option (Nat × Nat × (Nat → Int32)) := match h[k]? with
  | some (.inl (t, n, .inl f)) => some (t, n, f)
  | _ => none
def mi_al (h : mi_H) (k : Nat) : Option (Nat × (Nat → Int64)) := match h[k]? with
  | some (.inl (t, n, .inr (.inl f))) => if t = 1 then some (n, f) else none
  | _ => none
def mi_pw (h : mi_H) (k ci j : Nat) (v : Value) : mi_H := match h[k]? with
  | some (.inr o) => h.set k (.inr (ci, o.2.set j v))
  | _ => h
def mi_aw (h : mi_H) (k i : Nat) (x : Int32) : mi_H := match h[k]? with
  | some (.inl (t, n, .inl f)) => h.set k (.inl (t, n, .inl (upd f i x)))
  | _ => h
def mi_lw' (h : mi_H) (k i : Nat) (x : Int64) : mi_H := match h[k]? with
  | some (.inl (t, n, .inr (.inl f))) => h.set k (.inl (t, n, .inr (.inl (vp_updL f i x))))
  | _ => h
theorem mi_fv_inv {h : mi_H} {k ci j : Nat} {v : Value} (q : mi_fv h k ci j = some v) : ∃ o : List Value, h[k]? = some (.inr (ci, o)) ∧ o[j]? = some v := by
  unfold mi_fv at q
  split at q
  next o ho =>
    split at q
    next hc => obtain ⟨a, b⟩ := o; cases hc; exact ⟨b, ho, q⟩
    next => cases q
  next => cases q
theorem mi_ai_inv {h : mi_H} {k t n : Nat} {f : Nat → Int32} (q : mi_ai h k = some (t, n, f)) : h[k]? = some (.inl (t, n, .inl f)) := by
  unfold mi_ai at q
  split at q
  next t n f ho => cases q; exact ho
  next => cases q
theorem mi_al_inv {h : mi_H} {k n : Nat} {f : Nat → Int64} (q : mi_al h k = some (n, f)) : h[k]? = some (.inl (1, n, .inr (.inl f))) := by
  unfold mi_al at q
  split at q
  next t n f ho =>
    split at q
    next ht => cases ht; cases q; exact ho
    next => cases q
  next => cases q
theorem mi_fv_of {h : mi_H} {k ci j : Nat} {o : List Value} {v : Value} (q : h[k]? = some (.inr (ci, o))) (hj : o[j]? = some v) : mi_fv h k ci j = some v := by
  unfold mi_fv
  rw [q]
  exact (if_pos rfl).trans hj
theorem mi_ai_of {h : mi_H} {k t n : Nat} {f : Nat → Int32} (q : h[k]? = some (.inl (t, n, .inl f))) : mi_ai h k = some (t, n, f) := by
  unfold mi_ai
  rw [q]
theorem mi_al_of {h : mi_H} {k n : Nat} {f : Nat → Int64} (q : h[k]? = some (.inl (1, n, .inr (.inl f)))) : mi_al h k = some (n, f) := by
  unfold mi_al
  rw [q]
  exact if_pos rfl
theorem mi_set_eq {h : mi_H} {k : Nat} {e e' : va_E} (q : h[k]? = some e) : (h.set k e')[k]? = some e' := by
  rw [List.getElem?_set_self (List.getElem?_eq_some_iff.mp q).1]
theorem mi_set_ne {h : mi_H} {k k' : Nat} {e' : va_E} (q : k ≠ k') : (h.set k e')[k']? = h[k']? := List.getElem?_set_ne q
/-! what a write leaves -/
theorem mi_fv_pw {h : mi_H} {k ci j : Nat} {v w : Value} (q : mi_fv h k ci j = some w) : mi_fv (mi_pw h k ci j v) k ci j = some v := by
  obtain ⟨o, h1, h2⟩ := mi_fv_inv q
  unfold mi_pw
  rw [h1]
  exact mi_fv_of (mi_set_eq h1) (List.getElem?_set_self (List.getElem?_eq_some_iff.mp h2).1)
theorem mi_fv_pw_j {h : mi_H} {k k' ci ci' j j' : Nat} {v w : Value} (hne : j ≠ j') (q : mi_fv h k' ci j' = some w) (hc : k = k' → ci' = ci) : mi_fv (mi_pw h k ci' j v) k' ci j' = some w := by
  obtain ⟨o, h1, h2⟩ := mi_fv_inv q
  by_cases hk : k = k'
  · subst hk
    obtain rfl := hc rfl
    unfold mi_pw
    rw [h1]
    exact mi_fv_of (mi_set_eq h1) (by rw [List.getElem?_set_ne hne]; exact h2)
  · unfold mi_pw
    split
    next o' ho => exact mi_fv_of (by rw [mi_set_ne hk]; exact h1) h2
    next => exact q
theorem mi_fv_pw_k {h : mi_H} {k k' ci ci' j j' : Nat} {v : Value} (hk : k ≠ k') : mi_fv (mi_pw h k ci' j v) k' ci j' = mi_fv h k' ci j' := by
  unfold mi_pw
  split
  next o' ho => unfold mi_fv; rw [mi_set_ne hk]
  next => rfl
theorem mi_ai_pw {h : mi_H} {k k' ci j : Nat} {v : Value} : mi_ai (mi_pw h k ci j v) k' = mi_ai h k' := by
  unfold mi_pw
  split
  next o' ho =>
    by_cases hk : k = k'
    · subst hk
      unfold mi_ai
      rw [mi_set_eq ho, ho]
    · unfold mi_ai; rw [mi_set_ne hk]
  next => rfl
theorem mi_al_pw {h : mi_H} {k k' ci j : Nat} {v : Value} : mi_al (mi_pw h k ci j v) k' = mi_al h k' := by
  unfold mi_pw
  split
  next o' ho =>
    by_cases hk : k = k'
    · subst hk
      unfold mi_al
      rw [mi_set_eq ho, ho]
    · unfold mi_al; rw [mi_set_ne hk]
  next => rfl
theorem mi_fv_aw {h : mi_H} {k i k' ci j : Nat} {x : Int32} : mi_fv (mi_aw h k i x) k' ci j = mi_fv h k' ci j := by
  unfold mi_aw
  split
  next t n f ho =>
    by_cases hk : k = k'
    · subst hk
      unfold mi_fv
      rw [mi_set_eq ho, ho]
    · unfold mi_fv; rw [mi_set_ne hk]
  next => rfl
theorem mi_ai_aw {h : mi_H} {k i t n : Nat} {x : Int32} {f : Nat → Int32} (q : mi_ai h k = some (t, n, f)) : mi_ai (mi_aw h k i x) k = some (t, n, upd f i x) := by
  have h1 := mi_ai_inv q
  unfold mi_aw
  rw [h1]
  exact mi_ai_of (mi_set_eq h1)
theorem mi_ai_aw_k {h : mi_H} {k i k' : Nat} {x : Int32} (hk : k ≠ k') : mi_ai (mi_aw h k i x) k' = mi_ai h k' := by
  unfold mi_aw
  split
  next t n f ho => unfold mi_ai; rw [mi_set_ne hk]
  next => rfl
theorem mi_al_aw {h : mi_H} {k i k' : Nat} {x : Int32} : mi_al (mi_aw h k i x) k' = mi_al h k' := by
  unfold mi_aw
  split
  next t n f ho =>
    by_cases hk : k = k'
    · subst hk
      unfold mi_al
      rw [mi_set_eq ho, ho]
    · unfold mi_al; rw [mi_set_ne hk]
  next => rfl
theorem mi_fv_lw {h : mi_H} {k i k' ci j : Nat} {x : Int64} : mi_fv (mi_lw' h k i x) k' ci j = mi_fv h k' ci j := by
  unfold mi_lw'
  split
  next t n f ho =>
    by_cases hk : k = k'
    · subst hk
      unfold mi_fv
      rw [mi_set_eq ho, ho]
    · unfold mi_fv; rw [mi_set_ne hk]
  next => rfl
theorem mi_ai_lw {h : mi_H} {k i k' : Nat} {x : Int64} : mi_ai (mi_lw' h k i x) k' = mi_ai h k' := by
  unfold mi_lw'
  split
  next t n f ho =>
    by_cases hk : k = k'
    · subst hk
      unfold mi_ai
      rw [mi_set_eq ho, ho]
    · unfold mi_ai; rw [mi_set_ne hk]
  next => rfl
theorem mi_al_lw {h : mi_H} {k i n : Nat} {x : Int64} {f : Nat → Int64} (q : mi_al h k = some (n, f)) : mi_al (mi_lw' h k i x) k = some (n, vp_updL f i x) := by
  have h1 := mi_al_inv q
  unfold mi_lw'
  rw [h1]
  exact mi_al_of (mi_set_eq h1)
theorem mi_al_lw_k {h : mi_H} {k i k' : Nat} {x : Int64} (hk : k ≠ k') : mi_al (mi_lw' h k i x) k' = mi_al h k' := by
  unfold mi_lw'
  split
  next t n f ho => unfold mi_al; rw [mi_set_ne hk]
  next => rfl
/-! more cells behind -/
theorem mi_app_l {h : mi_H} {e : va_E} {k : Nat} {x : va_E} (q : h[k]? = some x) : (h ++ [e])[k]? = some x := by
  rw [List.getElem?_append_left (List.getElem?_eq_some_iff.mp q).1]
  exact q
theorem mi_fv_app {h : mi_H} {e : va_E} {k ci j : Nat} {v : Value} (q : mi_fv h k ci j = some v) : mi_fv (h ++ [e]) k ci j = some v := by
  obtain ⟨o, h1, h2⟩ := mi_fv_inv q
  exact mi_fv_of (mi_app_l h1) h2
theorem mi_ai_app {h : mi_H} {e : va_E} {k t n : Nat} {f : Nat → Int32} (q : mi_ai h k = some (t, n, f)) : mi_ai (h ++ [e]) k = some (t, n, f) := mi_ai_of (mi_app_l (mi_ai_inv q))
theorem mi_al_app {h : mi_H} {e : va_E} {k n : Nat} {f : Nat → Int64} (q : mi_al h k = some (n, f)) : mi_al (h ++ [e]) k = some (n, f) := mi_al_of (mi_app_l (mi_al_inv q))
/-! ===== a run that ends as Q asks ===== -/
def mi_wp (X : mi_X) (d : Nat) (M : mi_M) (pc : Nat) (l : mi_L) (st : List Value) (h : mi_H) (c s : Nat) (Q : mi_Z → Prop) : Prop := ∃ n z, mi_run X n d M pc l st h c s = some z ∧ Q z
theorem mi_wp_run {X X' : mi_X} (hX : X = none ∨ X = X') {n d : Nat} {M : mi_M} {pc : Nat} {l : mi_L} {st : List Value} {h : mi_H} {c s : Nat} {Q : mi_Z → Prop} {z : mi_Z} (hr : mi_run X n d M pc l st h c s = some z) (hq : Q z) : mi_wp X' d M pc l st h c s Q := ⟨n + 0, z, mi_run_up hX n 0 d M pc l st h c s z hr, hq⟩
section MWP
variable {X : mi_X} {d : Nat} {M M' : mi_M} {pc pc' len c s c' s' : Nat} {i : Instr} {l l' : mi_L} {st st' args rest : List Value} {h h' : mi_H} {Q : mi_Z → Prop}
theorem mi_wp_q {Q' : mi_Z → Prop} (k : mi_wp X d M pc l st h c s Q') (hq : ∀ z, Q' z → Q z) : mi_wp X d M pc l st h c s Q := by
  obtain ⟨n, z, hr, hz⟩ := k
  exact ⟨n, z, hr, hq z hz⟩
theorem mi_wp_p (ht : mi_lk (mi_th M) pc = none) (hi : mi_lk (mi_cd M) pc = some (i, len)) (hp : mi_pure (mi_nL M) len i pc l st = some (pc', l', st')) (k : mi_wp X d M pc' l' st' h c s Q) : mi_wp X d M pc l st h c s Q := by
  obtain ⟨n, z, hr, hz⟩ := k
  exact ⟨n + 1, z, mi_st_p ht hi hp hr, hz⟩
theorem mi_wp_r (ht : mi_lk (mi_th M) pc = none) (hi : mi_lk (mi_cd M) pc = some (i, 1)) (hp : mi_pure (mi_nL M) 1 i pc l st = none) {v : Option Value} (hv : mi_ret M i st = some v) (hq : Q (.inl v, h, c, s)) : mi_wp X d M pc l st h c s Q := ⟨0 + 1, _, mi_st_r ht hi hp hv, hq⟩
theorem mi_wp_x {t : Nat × Nat × Nat × Nat × Bool} (ht : mi_lk (mi_th M) pc = some t) (hd : 8 ≤ d) (hc : mi_cat st ≤ 8) (hq : Q (.inr t.1, h, c + 1, s + 6)) : mi_wp X d M pc l st h c s Q := ⟨0 + 1, _, mi_st_x ht hd hc, hq⟩
theorem mi_wp_m (ht : mi_lk (mi_th M) pc = none) (hi : mi_lk (mi_cd M) pc = some (i, len)) (hp : mi_pure (mi_nL M) len i pc l st = none) (hv : mi_ret M i st = none) (hl : len = mi_ml2 i) (hm : mi_mem X M i pc st h c s = some (pc', st', h', c', s')) (k : mi_wp X d M pc' l st' h' c' s' Q) : mi_wp X d M pc l st h c s Q := by
  obtain ⟨n, z, hr, hz⟩ := k
  exact ⟨n + 1, z, mi_st_m ht hi hp hv hl hm hr, hz⟩
theorem mi_wp_e (ht : mi_lk (mi_th M) pc = none) (hi : mi_lk (mi_cd M) pc = some (i, 3)) (hp : mi_pure (mi_nL M) 3 i pc l st = none) (hv : mi_ret M i st = none) (hm : (if 3 = mi_ml2 i then mi_mem X M i pc st h c s else none) = none) (he : mi_easy M i st = some st') (k : mi_wp X (d + 1) M (pc + 3) l st' h c s Q) : mi_wp X (d + 1) M pc l st h c s Q := by
  obtain ⟨n, z, hr, hz⟩ := k
  exact ⟨n + 1, z, mi_st_e ht hi hp hv hm he hr, hz⟩
/-- a call: what it comes to, and how it goes on behind each of its ends -/
theorem mi_wp_c (ht : mi_lk (mi_th M) pc = none) (hi : mi_lk (mi_cd M) pc = some (i, 3)) (hp : mi_pure (mi_nL M) 3 i pc l st = none) (hv : mi_ret M i st = none) (hm : (if 3 = mi_ml2 i then mi_mem X M i pc st h c s else none) = none) (he : mi_easy M i st = none) (hcal : mi_cal M i st h = some (M', args, rest)) (hcat : mi_cat args ≤ mi_nL M') {Q' : mi_Z → Prop} (hc : mi_wp X d M' 0 (lv_args 0 args) [] h 0 0 Q')
    (k : ∀ v h' c' s', Q' (.inl v, h', c', s') → mi_wp X (d + 1) M (pc + 3) l (v.toList ++ rest) h' (c + c') (s + s') Q)
    (kx : ∀ x h' c' s', Q' (.inr x, h', c', s') → mi_kd M' = 1 ∧ ∃ p', mi_hnd M pc x = some p' ∧ mi_wp X (d + 1) M p' l [.float 0] h' (c + c') (s + s') Q) : mi_wp X (d + 1) M pc l st h c s Q := by
  obtain ⟨n1, z1, hr1, hz1⟩ := hc
  obtain ⟨a, h', c', s'⟩ := z1
  cases a with
  | inl v =>
    obtain ⟨n, z, hr, hz⟩ := k v h' c' s' hz1
    exact ⟨(n + n1) + 1, z, mi_st_c ht hi hp hv hm he hcal hcat (Nat.le_add_left n1 n) (Or.inr rfl) hr1 (mi_run_up (Or.inr rfl) n n1 _ _ _ _ _ _ _ _ _ hr), hz⟩
  | inr x =>
    obtain ⟨hk, p', hh, n, z, hr, hz⟩ := kx x h' c' s' hz1
    exact ⟨(n + n1) + 1, z, mi_st_h ht hi hp hv hm he hcal hcat (Nat.le_add_left n1 n) (Or.inr rfl) hr1 hk hh (mi_run_up (Or.inr rfl) n n1 _ _ _ _ _ _ _ _ _ hr), hz⟩
/-- a call that returns a value (or nothing) for sure -/
theorem mi_wp_c1 (ht : mi_lk (mi_th M) pc = none) (hi : mi_lk (mi_cd M) pc = some (i, 3)) (hp : mi_pure (mi_nL M) 3 i pc l st = none) (hv : mi_ret M i st = none) (hm : (if 3 = mi_ml2 i then mi_mem X M i pc st h c s else none) = none) (he : mi_easy M i st = none) (hcal : mi_cal M i st h = some (M', args, rest)) (hcat : mi_cat args ≤ mi_nL M') {v : Option Value} {h1 : mi_H} {c1 s1 : Nat} (hc : mi_wp X d M' 0 (lv_args 0 args) [] h 0 0 (fun z => z = (.inl v, h1, c1, s1)))
    (k : mi_wp X (d + 1) M (pc + 3) l (v.toList ++ rest) h1 (c + c1) (s + s1) Q) : mi_wp X (d + 1) M pc l st h c s Q :=
  mi_wp_c ht hi hp hv hm he hcal hcat hc (fun _ _ _ _ e => by cases e; exact k) (fun _ _ _ _ e => by cases e)
/-- a call that throws for sure -/
theorem mi_wp_cx (ht : mi_lk (mi_th M) pc = none) (hi : mi_lk (mi_cd M) pc = some (i, 3)) (hp : mi_pure (mi_nL M) 3 i pc l st = none) (hv : mi_ret M i st = none) (hm : (if 3 = mi_ml2 i then mi_mem X M i pc st h c s else none) = none) (he : mi_easy M i st = none) (hcal : mi_cal M i st h = some (M', args, rest)) (hcat : mi_cat args ≤ mi_nL M') {x p' : Nat} {h1 : mi_H} {c1 s1 : Nat} (hc : mi_wp X d M' 0 (lv_args 0 args) [] h 0 0 (fun z => z = (.inr x, h1, c1, s1)))
    (hk : mi_kd M' = 1) (hh : mi_hnd M pc x = some p') (k : mi_wp X (d + 1) M p' l [.float 0] h1 (c + c1) (s + s1) Q) : mi_wp X (d + 1) M pc l st h c s Q :=
  mi_wp_c ht hi hp hv hm he hcal hcat hc (fun _ _ _ _ e => by cases e) (fun _ _ _ _ e => by cases e; exact ⟨hk, p', hh, k⟩)
/-! branches -/
theorem mi_br1 {k : ClassFile.Cond} {off : Int} {x : Int32} {r : List Value} {t nL : Nat} {b : Bool} (hc : mi_cc k x 0 = b) (hj : mi_jmp pc off = some t) : mi_pure nL 3 (.ifCond k off) pc l (.int x :: r) = some (bif b then t else pc + 3, l, r) := by
  subst hc
  show mi_c1 (fun x => mi_cc k x 0) pc off l (.int x :: r) = _
  have e : mi_c1 (fun x => mi_cc k x 0) pc off l (.int x :: r) = some (if mi_cc k x 0 = true then t else pc + 3, l, r) := by
    unfold mi_c1
    simp only [hj]
  rw [e]
  cases mi_cc k x 0 <;> rfl
theorem mi_br2 {k : ClassFile.Cond} {off : Int} {x y : Int32} {r : List Value} {t nL : Nat} {b : Bool} (hc : mi_cc k x y = b) (hj : mi_jmp pc off = some t) : mi_pure nL 3 (.if_icmp k off) pc l (.int y :: .int x :: r) = some (bif b then t else pc + 3, l, r) := by
  subst hc
  show mi_c2 (fun x y => mi_cc k x y) pc off l (.int y :: .int x :: r) = _
  have e : mi_c2 (fun x y => mi_cc k x y) pc off l (.int y :: .int x :: r) = some (if mi_cc k x y = true then t else pc + 3, l, r) := by
    unfold mi_c2
    simp only [hj]
  rw [e]
  cases mi_cc k x y <;> rfl
/-! cells -/
theorem mi_gf_of {ci j k : Nat} {v : Value} {r : List Value} (hv : mi_fv h k ci j = some v) : mi_gf ci j k pc' r h c s = some (pc', v :: r, h, c, s) := by
  obtain ⟨o, h1, h2⟩ := mi_fv_inv hv
  unfold mi_gf
  simp only [h1, h2, if_true]
theorem mi_wp_gf {idx ci j k : Nat} {v : Value} {r : List Value} (ht : mi_lk (mi_th M) pc = none) (hi : mi_lk (mi_cd M) pc = some (.getfield idx, 3)) (hx : mi_lk (mi_fl (mi_ow M)) idx = some (ci, j)) (hv : mi_fv h k ci j = some v) (kk : mi_wp X d M (pc + 3) l (v :: r) h c s Q) : mi_wp X d M pc l (.ref k :: r) h c s Q := by
  refine mi_wp_m ht hi rfl (by unfold mi_ret; rfl) rfl ?_ kk
  show mi_getf (mi_ow M) idx (pc + 3) (.ref k :: r) h c s = _
  unfold mi_getf
  simp only [hx]
  exact mi_gf_of hv
theorem mi_wp_gfn {idx ci j k : Nat} {v : Value} {r : List Value} (ht : mi_lk (mi_th M) pc = none) (hi : mi_lk (mi_cd M) pc = some (.getfield idx, 3)) (hx : mi_lk (mi_fl (mi_ow M)) idx = none) (hx2 : mi_lk (mi_nf (mi_ow M)) idx = some (ci, j)) (hv : mi_fv h k ci j = some v) (kk : mi_wp X d M (pc + 3) l (v :: r) h c s Q) : mi_wp X d M pc l (.ref k :: r) h c s Q := by
  refine mi_wp_m ht hi rfl (by unfold mi_ret; rfl) rfl ?_ kk
  show mi_getf (mi_ow M) idx (pc + 3) (.ref k :: r) h c s = _
  unfold mi_getf
  simp only [hx, hx2]
  exact mi_gf_of hv
theorem mi_wp_pf {idx ci j k : Nat} {v w : Value} {r : List Value} (ht : mi_lk (mi_th M) pc = none) (hi : mi_lk (mi_cd M) pc = some (.putfield idx, 3)) (hx : mi_lk (mi_fl (mi_ow M)) idx = some (ci, j)) (hv : mi_fv h k ci j = some w) (hf : mi_fit (mi_ty ci j) v = true) (hn : mi_fin ci j = false ∨ (mi_kd M = 2 ∧ mi_ow M = ci)) (kk : mi_wp X d M (pc + 3) l r (mi_pw h k ci j v) c s Q) : mi_wp X d M pc l (v :: .ref k :: r) h c s Q := by
  refine mi_wp_m ht hi rfl (by unfold mi_ret; rfl) rfl ?_ kk
  show mi_putf M idx (pc + 3) (v :: .ref k :: r) h c s = _
  unfold mi_putf
  simp only [hx]
  obtain ⟨o, h1, h2⟩ := mi_fv_inv hv
  unfold mi_pf mi_pw
  simp only [h1]
  exact if_pos ⟨trivial, (List.getElem?_eq_some_iff.mp h2).1, hf, hn⟩
theorem mi_fit_int {x : Int32} : mi_fit .int (.int x) = true := by
  unfold mi_fit
  simp [narrow, fits]
theorem mi_inb_of {j : Int32} {n : Nat} (h0 : 0 ≤ j.toInt) (h1 : j.toInt < n) : mi_inb j n = true := by
  unfold mi_inb
  simp [h0, h1]
theorem mi_wp_ials {n k : Nat} {f : Nat → Int32} {r : List Value} (ht : mi_lk (mi_th M) pc = none) (hi : mi_lk (mi_cd M) pc = some (.iaload, 1)) {j : Int32} (ha : mi_ai h k = some (0, n, f)) (hb : mi_inb j n = true) (kk : mi_wp X d M (pc + 1) l (.int (f j.toNatClampNeg) :: r) h c s Q) : mi_wp X d M pc l (.int j :: .ref k :: r) h c s Q := by
  refine mi_wp_m ht hi rfl (by unfold mi_ret; rfl) rfl ?_ kk
  show (match mi_ald 0 (pc + 1) (.int j :: .ref k :: r) h c s with | some q => some q | none => _) = _
  have : mi_ald 0 (pc + 1) (.int j :: .ref k :: r) h c s = some (pc + 1, .int (f j.toNatClampNeg) :: r, h, c, s) := by
    unfold mi_ald
    simp only [mi_ai_inv ha]
    exact if_pos ⟨trivial, hb⟩
  rw [this]
theorem mi_wp_ias {n k : Nat} {f : Nat → Int32} {x j : Int32} {r : List Value} (ht : mi_lk (mi_th M) pc = none) (hi : mi_lk (mi_cd M) pc = some (.iastore, 1)) (ha : mi_ai h k = some (0, n, f)) (hb : mi_inb j n = true) (kk : mi_wp X d M (pc + 1) l r (mi_aw h k j.toNatClampNeg x) c s Q) : mi_wp X d M pc l (.int x :: .int j :: .ref k :: r) h c s Q := by
  refine mi_wp_m ht hi rfl (by unfold mi_ret; rfl) rfl ?_ kk
  show mi_ast 0 (fun x => x) (pc + 1) (.int x :: .int j :: .ref k :: r) h c s = _
  have h1 := mi_ai_inv ha
  unfold mi_ast mi_aw
  simp only [h1]
  exact if_pos ⟨trivial, hb⟩
theorem mi_wp_bas {n k : Nat} {f : Nat → Int32} {x j : Int32} {r : List Value} (ht : mi_lk (mi_th M) pc = none) (hi : mi_lk (mi_cd M) pc = some (.bastore, 1)) (ha : mi_ai h k = some (2, n, f)) (hb : mi_inb j n = true) (kk : mi_wp X d M (pc + 1) l r (mi_aw h k j.toNatClampNeg (vp_nar .byte x)) c s Q) : mi_wp X d M pc l (.int x :: .int j :: .ref k :: r) h c s Q := by
  refine mi_wp_m ht hi rfl (by unfold mi_ret; rfl) rfl ?_ kk
  show (match mi_ast 2 (vp_nar .byte) (pc + 1) (.int x :: .int j :: .ref k :: r) h c s with | some q => some q | none => _) = _
  have h1 := mi_ai_inv ha
  have : mi_ast 2 (vp_nar .byte) (pc + 1) (.int x :: .int j :: .ref k :: r) h c s = some (pc + 1, r, mi_aw h k j.toNatClampNeg (vp_nar .byte x), c, s) := by
    unfold mi_ast mi_aw
    simp only [h1]
    exact if_pos ⟨trivial, hb⟩
  rw [this]
theorem mi_wp_las {n k : Nat} {f : Nat → Int64} {x : Int64} {j : Int32} {r : List Value} (ht : mi_lk (mi_th M) pc = none) (hi : mi_lk (mi_cd M) pc = some (.lastore, 1)) (ha : mi_al h k = some (n, f)) (hb : mi_inb j n = true) (kk : mi_wp X d M (pc + 1) l r (mi_lw' h k j.toNatClampNeg x) c s Q) : mi_wp X d M pc l (.long x :: .int j :: .ref k :: r) h c s Q := by
  refine mi_wp_m ht hi rfl (by unfold mi_ret; rfl) rfl ?_ kk
  show mi_last (pc + 1) (.long x :: .int j :: .ref k :: r) h c s = _
  have h1 := mi_al_inv ha
  unfold mi_last mi_lw'
  simp only [h1]
  exact if_pos ⟨trivial, hb⟩
theorem mi_wp_lald {n k : Nat} {f : Nat → Int64} {j : Int32} {r : List Value} (ht : mi_lk (mi_th M) pc = none) (hi : mi_lk (mi_cd M) pc = some (.laload, 1)) (ha : mi_al h k = some (n, f)) (hb : mi_inb j n = true) (kk : mi_wp X d M (pc + 1) l (.long (f j.toNatClampNeg) :: r) h c s Q) : mi_wp X d M pc l (.int j :: .ref k :: r) h c s Q := by
  refine mi_wp_m ht hi rfl (by unfold mi_ret; rfl) rfl ?_ kk
  show mi_lald (pc + 1) (.int j :: .ref k :: r) h c s = _
  have h1 := mi_al_inv ha
  unfold mi_lald
  simp only [h1]
  exact if_pos ⟨trivial, hb⟩
/-! what is called -/
theorem mi_rc_of {k ci j : Nat} {v : Value} (q : mi_fv h k ci j = some v) : mi_rc h (.ref k) ci = true := by
  obtain ⟨o, h1, -⟩ := mi_fv_inv q
  unfold mi_rc
  simp only [h1]
  exact beq_self_eq_true ci
theorem mi_cal_v {idx m np : Nat} (hl : mi_lk (mi_ml (mi_ow M)) idx = some m) (hm : mi_mt[m]? = some M') (hk : mi_kd M' = 1) (hn : mi_np M' = np) (hlen : np < st.length) (hc : mi_cat (st.drop (np + 1)) ≤ 8) (hr : mi_rc h (st.getD np .null) (mi_ow M') = true) : mi_cal M (.invokevirtual idx) st h = some (M', (st.take (np + 1)).reverse, st.drop (np + 1)) := by
  subst hn
  unfold mi_cal
  simp only [hl, hm]
  exact if_pos ⟨hk, hlen, hc, hr⟩
theorem mi_cal_s {idx m np : Nat} (hl : mi_lk (mi_ml (mi_ow M)) idx = some m) (hm : mi_mt[m]? = some M') (hk : mi_kd M' = 0 ∨ mi_kd M' = 3) (hn : mi_np M' = np) (hlen : np ≤ st.length) (hc : mi_cat (st.drop np) ≤ 8) : mi_cal M (.invokestatic idx) st h = some (M', (st.take np).reverse, st.drop np) := by
  subst hn
  unfold mi_cal
  simp only [hl, hm]
  exact if_pos ⟨hk, hlen, hc⟩
/-! writes, with what is left of the cells -/
theorem mi_fv_pw_o {k k' ci ci' j j' : Nat} {v w : Value} (hh : mi_fv h k ci j = some v) (q : mi_fv h k' ci' j' = some w) (hne : k' ≠ k ∨ j' ≠ j) {x : Value} : mi_fv (mi_pw h k ci j x) k' ci' j' = some w := by
  by_cases hk : k = k'
  · subst hk
    obtain ⟨o, h1, -⟩ := mi_fv_inv hh
    obtain ⟨o', h2, -⟩ := mi_fv_inv q
    rw [h1] at h2
    cases h2
    exact mi_fv_pw_j (fun e => (hne.resolve_left (fun h => h rfl)) e.symm) q (fun _ => rfl)
  · rw [mi_fv_pw_k hk]
    exact q
theorem mi_pw_len {k ci j : Nat} {v : Value} : (mi_pw h k ci j v).length = h.length := by
  unfold mi_pw
  split
  next => exact List.length_set
  next => rfl
theorem mi_aw_len {k i : Nat} {x : Int32} : (mi_aw h k i x).length = h.length := by
  unfold mi_aw
  split
  next => exact List.length_set
  next => rfl
theorem mi_lw_len {k i : Nat} {x : Int64} : (mi_lw' h k i x).length = h.length := by
  unfold mi_lw'
  split
  next => exact List.length_set
  next => rfl
theorem mi_wp_pfk {idx ci j k : Nat} {v w : Value} {r : List Value} (ht : mi_lk (mi_th M) pc = none) (hi : mi_lk (mi_cd M) pc = some (.putfield idx, 3)) (hx : mi_lk (mi_fl (mi_ow M)) idx = some (ci, j)) (hv : mi_fv h k ci j = some w) (hf : mi_fit (mi_ty ci j) v = true) (hn : mi_fin ci j = false ∨ (mi_kd M = 2 ∧ mi_ow M = ci))
    (kk : ∀ h' : mi_H, mi_fv h' k ci j = some v → (∀ (k' ci' j' : Nat) (w : Value), mi_fv h k' ci' j' = some w → (k' ≠ k ∨ j' ≠ j) → mi_fv h' k' ci' j' = some w) → (∀ k' : Nat, mi_ai h' k' = mi_ai h k') → (∀ k' : Nat, mi_al h' k' = mi_al h k') → h'.length = h.length → mi_wp X d M (pc + 3) l r h' c s Q) : mi_wp X d M pc l (v :: .ref k :: r) h c s Q :=
  mi_wp_pf ht hi hx hv hf hn (kk _ (mi_fv_pw hv) (fun _ _ _ _ q hne => mi_fv_pw_o hv q hne) (fun _ => mi_ai_pw) (fun _ => mi_al_pw) mi_pw_len)
theorem mi_wp_iask {n k : Nat} {f : Nat → Int32} {x j : Int32} {r : List Value} (ht : mi_lk (mi_th M) pc = none) (hi : mi_lk (mi_cd M) pc = some (.iastore, 1)) (ha : mi_ai h k = some (0, n, f)) (hb : mi_inb j n = true)
    (kk : ∀ h' : mi_H, mi_ai h' k = some (0, n, upd f j.toNatClampNeg x) → (∀ (k' ci' j' : Nat), mi_fv h' k' ci' j' = mi_fv h k' ci' j') → (∀ k' : Nat, k' ≠ k → mi_ai h' k' = mi_ai h k') → (∀ k' : Nat, mi_al h' k' = mi_al h k') → h'.length = h.length → mi_wp X d M (pc + 1) l r h' c s Q) : mi_wp X d M pc l (.int x :: .int j :: .ref k :: r) h c s Q :=
  mi_wp_ias ht hi ha hb (kk _ (mi_ai_aw ha) (fun _ _ _ => mi_fv_aw) (fun _ q => mi_ai_aw_k (Ne.symm q)) (fun _ => mi_al_aw) mi_aw_len)
theorem mi_wp_bask {n k : Nat} {f : Nat → Int32} {x j : Int32} {r : List Value} (ht : mi_lk (mi_th M) pc = none) (hi : mi_lk (mi_cd M) pc = some (.bastore, 1)) (ha : mi_ai h k = some (2, n, f)) (hb : mi_inb j n = true)
    (kk : ∀ h' : mi_H, mi_ai h' k = some (2, n, upd f j.toNatClampNeg (vp_nar .byte x)) → (∀ (k' ci' j' : Nat), mi_fv h' k' ci' j' = mi_fv h k' ci' j') → (∀ k' : Nat, k' ≠ k → mi_ai h' k' = mi_ai h k') → (∀ k' : Nat, mi_al h' k' = mi_al h k') → h'.length = h.length → mi_wp X d M (pc + 1) l r h' c s Q) : mi_wp X d M pc l (.int x :: .int j :: .ref k :: r) h c s Q :=
  mi_wp_bas ht hi ha hb (kk _ (mi_ai_aw ha) (fun _ _ _ => mi_fv_aw) (fun _ q => mi_ai_aw_k (Ne.symm q)) (fun _ => mi_al_aw) mi_aw_len)
theorem mi_wp_lask {n k : Nat} {f : Nat → Int64} {x : Int64} {j : Int32} {r : List Value} (ht : mi_lk (mi_th M) pc = none) (hi : mi_lk (mi_cd M) pc = some (.lastore, 1)) (ha : mi_al h k = some (n, f)) (hb : mi_inb j n = true)
    (kk : ∀ h' : mi_H, mi_al h' k = some (n, vp_updL f j.toNatClampNeg x) → (∀ (k' ci' j' : Nat), mi_fv h' k' ci' j' = mi_fv h k' ci' j') → (∀ k' : Nat, mi_ai h' k' = mi_ai h k') → (∀ k' : Nat, k' ≠ k → mi_al h' k' = mi_al h k') → h'.length = h.length → mi_wp X d M (pc + 1) l r h' c s Q) : mi_wp X d M pc l (.long x :: .int j :: .ref k :: r) h c s Q :=
  mi_wp_las ht hi ha hb (kk _ (mi_al_lw ha) (fun _ _ _ => mi_fv_lw) (fun _ => mi_ai_lw) (fun _ q => mi_al_lw_k (Ne.symm q)) mi_lw_len)
/-- a new row of ints -/
theorem mi_wp_nai {k : Nat} {n : Int32} {r : List Value} (ht : mi_lk (mi_th M) pc = none) (hi : mi_lk (mi_cd M) pc = some (.newarray .int, 2)) (hl : h.length = k) (hb : mi_inb n 200001 = true)
    (kk : ∀ h' : mi_H, mi_ai h' k = some (0, n.toNatClampNeg, fun _ => 0) → (∀ (k' ci' j' : Nat) (w : Value), mi_fv h k' ci' j' = some w → mi_fv h' k' ci' j' = some w) → (∀ (k' t m : Nat) (f : Nat → Int32), mi_ai h k' = some (t, m, f) → mi_ai h' k' = some (t, m, f)) → (∀ (k' m : Nat) (f : Nat → Int64), mi_al h k' = some (m, f) → mi_al h' k' = some (m, f)) → h'.length = k + 1 → mi_wp X d M (pc + 2) l (.ref k :: r) h' (c + 1) (s + n.toNatClampNeg) Q) : mi_wp X d M pc l (.int n :: r) h c s Q := by
  subst hl
  refine mi_wp_m ht hi rfl (by unfold mi_ret; rfl) rfl ?_ (kk (h ++ [.inl (0, n.toNatClampNeg, .inl (fun _ => 0))]) (mi_ai_of (by rw [List.getElem?_append_right (Nat.le_refl _)]; simp)) (fun _ _ _ _ q => mi_fv_app q) (fun _ _ _ _ q => mi_ai_app q) (fun _ _ _ q => mi_al_app q) (by simp))
  show mi_nar 0 (fun n => (n, .inl (fun _ => 0))) (pc + 2) (.int n :: r) h c s = _
  unfold mi_nar
  exact if_pos hb
theorem mi_wp_aln {k t n : Nat} {f : Nat → Int32} {r : List Value} (ht : mi_lk (mi_th M) pc = none) (hi : mi_lk (mi_cd M) pc = some (.arraylength, 1)) (ha : mi_ai h k = some (t, n, f)) (h4 : t < 4) (kk : mi_wp X d M (pc + 1) l (.int (Int32.ofNat n) :: r) h c s Q) : mi_wp X d M pc l (.ref k :: r) h c s Q := by
  refine mi_wp_m ht hi rfl (by unfold mi_ret; rfl) rfl ?_ kk
  show mi_alen X (pc + 1) (.ref k :: r) h c s = _
  unfold mi_alen
  simp only [mi_ai_inv ha]
  exact if_pos h4
end MWP
/-- a word of the script -/
theorem mi_wp_sld {L : Nat} {xs : Nat → Int32} {d : Nat} {M : mi_M} {pc c s : Nat} {l : mi_L} {h : mi_H} {Q : mi_Z → Prop} {j x : Int32} {k : Nat} {r : List Value} (ht : mi_lk (mi_th M) pc = none) (hi : mi_lk (mi_cd M) pc = some (.iaload, 1)) (hb : mi_inb j L = true) (hj : j.toNatClampNeg = k) (hx : xs k = x) (kk : mi_wp (some (L, xs)) d M (pc + 1) l (.int x :: r) h c s Q) : mi_wp (some (L, xs)) d M pc l (.int j :: .retAddr 3 :: r) h c s Q := by
  subst hj hx
  refine mi_wp_m ht hi rfl (by unfold mi_ret; rfl) rfl ?_ kk
  show mi_sld (some (L, xs)) (pc + 1) (.int j :: .retAddr 3 :: r) h c s = _
  unfold mi_sld
  exact if_pos ⟨rfl, hb⟩
theorem mi_wp_slen {L : Nat} {xs : Nat → Int32} {d : Nat} {M : mi_M} {pc c s : Nat} {l : mi_L} {h : mi_H} {Q : mi_Z → Prop} {r : List Value} (ht : mi_lk (mi_th M) pc = none) (hi : mi_lk (mi_cd M) pc = some (.arraylength, 1)) (kk : mi_wp (some (L, xs)) d M (pc + 1) l (.int (Int32.ofNat L) :: r) h c s Q) : mi_wp (some (L, xs)) d M pc l (.retAddr 3 :: r) h c s Q := by
  refine mi_wp_m ht hi rfl (by unfold mi_ret; rfl) rfl ?_ kk
  show mi_alen (some (L, xs)) (pc + 1) (.retAddr 3 :: r) h c s = _
  unfold mi_alen
  rfl
section MWQ
variable {X : mi_X} {d : Nat} {M M' : mi_M} {pc c s : Nat} {i : Instr} {l : mi_L} {st args rest : List Value} {h : mi_H} {Q : mi_Z → Prop}
/-- a call that returns v for sure, and leaves cells of which P is known -/
theorem mi_wp_ce (ht : mi_lk (mi_th M) pc = none) (hi : mi_lk (mi_cd M) pc = some (i, 3)) (hp : mi_pure (mi_nL M) 3 i pc l st = none) (hv : mi_ret M i st = none) (hm : (if 3 = mi_ml2 i then mi_mem X M i pc st h c s else none) = none) (he : mi_easy M i st = none) (hcal : mi_cal M i st h = some (M', args, rest)) (hcat : mi_cat args ≤ mi_nL M') {v : Option Value} {c1 s1 : Nat} {P : mi_H → Prop} (hc : mi_wp X d M' 0 (lv_args 0 args) [] h 0 0 (fun z => ∃ h', z = (.inl v, h', c1, s1) ∧ P h'))
    (k : ∀ h' : mi_H, P h' → mi_wp X (d + 1) M (pc + 3) l (v.toList ++ rest) h' (c + c1) (s + s1) Q) : mi_wp X (d + 1) M pc l st h c s Q :=
  mi_wp_c ht hi hp hv hm he hcal hcat hc (fun _ _ _ _ ⟨h', e, g⟩ => by cases e; exact k _ g) (fun _ _ _ _ ⟨h', e, g⟩ => by cases e)
theorem mi_wp_laldv {n k : Nat} {f : Nat → Int64} {j : Int32} {v : Int64} {r : List Value} (ht : mi_lk (mi_th M) pc = none) (hi : mi_lk (mi_cd M) pc = some (.laload, 1)) (ha : mi_al h k = some (n, f)) (hb : mi_inb j n = true) (hj : j.toNatClampNeg = 0) (hv : f 0 = v) (kk : mi_wp X d M (pc + 1) l (.long v :: r) h c s Q) : mi_wp X d M pc l (.int j :: .ref k :: r) h c s Q := by
  subst hv
  refine mi_wp_lald ht hi ha hb ?_
  rw [hj]
  exact kk
end MWQ
theorem mi_i01 (a : Int32) : a < Int32.ofInt 0 ∨ (0 : Int32) - Int32.ofInt 1 < a := by
  rw [Int32.lt_iff_toInt_lt, Int32.lt_iff_toInt_lt, show (Int32.ofInt 0).toInt = 0 by decide, show ((0 : Int32) - Int32.ofInt 1).toInt = -1 by decide]
  omega
theorem mi_ige {a b : Int32} (h : ¬ a < b) : b ≤ a := Int32.not_lt.mp h
