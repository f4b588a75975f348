/-! ===== single steps of a run, for values that are not known ===== -/
section MST
variable {X : mi_X} {n d : Nat} {M M' : mi_M} {pc pc' len c s c' s' : Nat} {i : Instr} {l l' : mi_L} {st st' args rest : List Value} {h h' : mi_H} {r : Option mi_Z}
theorem mi_st_p (ht : mi_lk (mi_th M) pc = none) (hi : mi_lk (mi_cd M) pc = some (i, len)) (hp : mi_pure (mi_nL M) len i pc l st = some (pc', l', st')) (k : mi_run X n d M pc' l' st' h c s = r) : mi_run X (n + 1) d M pc l st h c s = r := by
  unfold mi_run
  simp only [ht, hi, hp]
  exact k
theorem mi_st_r (ht : mi_lk (mi_th M) pc = none) (hi : mi_lk (mi_cd M) pc = some (i, 1)) (hp : mi_pure (mi_nL M) 1 i pc l st = none) {v : Option Value} (hv : mi_ret M i st = some v) : mi_run X (n + 1) d M pc l st h c s = some (.inl v, h, c, s) := by
  unfold mi_run
  simp only [ht, hi, hp, hv]
  rfl
theorem mi_st_x {t : Nat × Nat × Nat × Nat × Bool} (ht : mi_lk (mi_th M) pc = some t) (hd : 8 ≤ d) (hc : mi_cat st ≤ 8) : mi_run X (n + 1) d M pc l st h c s = some (.inr t.1, h, c + 1, s + 6) := by
  unfold mi_run
  simp only [ht]
  exact if_pos ⟨hd, hc⟩
theorem mi_st_m (ht : mi_lk (mi_th M) pc = none) (hi : mi_lk (mi_cd M) pc = some (i, len)) (hp : mi_pure (mi_nL M) len i pc l st = none) (hv : mi_ret M i st = none) (hl : len = mi_ml2 i) (hm : mi_mem X M i pc st h c s = some (pc', st', h', c', s')) (k : mi_run X n d M pc' l st' h' c' s' = r) : mi_run X (n + 1) d M pc l st h c s = r := by
  unfold mi_run
  simp only [ht, hi, hp, hv, if_pos hl, hm]
  exact k
theorem mi_st_e (ht : mi_lk (mi_th M) pc = none) (hi : mi_lk (mi_cd M) pc = some (i, 3)) (hp : mi_pure (mi_nL M) 3 i pc l st = none) (hv : mi_ret M i st = none) (hm : (if 3 = mi_ml2 i then mi_mem X M i pc st h c s else none) = none) (he : mi_easy M i st = some st') (k : mi_run X n (d + 1) M (pc + 3) l st' h c s = r) : mi_run X (n + 1) (d + 1) M pc l st h c s = r := by
  unfold mi_run
  simp only [ht, hi, hp, hv, hm, he, if_true]
  exact k
/-- a call that returns: what it does may have been found with less fuel -/
theorem mi_st_c (ht : mi_lk (mi_th M) pc = none) (hi : mi_lk (mi_cd M) pc = some (i, 3)) (hp : mi_pure (mi_nL M) 3 i pc l st = none) (hv : mi_ret M i st = none) (hm : (if 3 = mi_ml2 i then mi_mem X M i pc st h c s else none) = none) (he : mi_easy M i st = none) (hcal : mi_cal M i st h = some (M', args, rest)) (hcat : mi_cat args ≤ mi_nL M')
    {v : Option Value} {n' : Nat} (hn : n' ≤ n) {X0 : mi_X} (hX : X0 = none ∨ X0 = X) (hr : mi_run X0 n' d M' 0 (lv_args 0 args) [] h 0 0 = some (.inl v, h', c', s')) (k : mi_run X n (d + 1) M (pc + 3) l (v.toList ++ rest) h' (c + c') (s + s') = r) : mi_run X (n + 1) (d + 1) M pc l st h c s = r := by
  have hr' : mi_run X n d M' 0 (lv_args 0 args) [] h 0 0 = some (.inl v, h', c', s') := by
    have := mi_run_up hX n' (n - n') d M' 0 (lv_args 0 args) [] h 0 0 _ hr
    rwa [show n' + (n - n') = n by omega] at this
  unfold mi_run
  simp only [ht, hi, hp, hv, hm, he, hcal, if_true, if_pos hcat, hr']
  exact k
/-- a call whose exception is caught here -/
theorem mi_st_h (ht : mi_lk (mi_th M) pc = none) (hi : mi_lk (mi_cd M) pc = some (i, 3)) (hp : mi_pure (mi_nL M) 3 i pc l st = none) (hv : mi_ret M i st = none) (hm : (if 3 = mi_ml2 i then mi_mem X M i pc st h c s else none) = none) (he : mi_easy M i st = none) (hcal : mi_cal M i st h = some (M', args, rest)) (hcat : mi_cat args ≤ mi_nL M')
    {x p' : Nat} {n' : Nat} (hn : n' ≤ n) {X0 : mi_X} (hX : X0 = none ∨ X0 = X) (hr : mi_run X0 n' d M' 0 (lv_args 0 args) [] h 0 0 = some (.inr x, h', c', s')) (hk : mi_kd M' = 1) (hh : mi_hnd M pc x = some p') (k : mi_run X n (d + 1) M p' l [.float 0] h' (c + c') (s + s') = r) : mi_run X (n + 1) (d + 1) M pc l st h c s = r := by
  have hr' : mi_run X n d M' 0 (lv_args 0 args) [] h 0 0 = some (.inr x, h', c', s') := by
    have := mi_run_up hX n' (n - n') d M' 0 (lv_args 0 args) [] h 0 0 _ hr
    rwa [show n' + (n - n') = n by omega] at this
  unfold mi_run
  simp only [ht, hi, hp, hv, hm, he, hcal, if_true, if_pos hcat, hr', if_pos hk, hh]
  exact k
end MST
