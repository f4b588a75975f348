/-! ===== the pure instructions are the machine's ===== -/
section MIP
variable {p : Program} {l : Launch} {e : Env} {R : Room} {s : State} {m : MethodId} {args : Array Value} {below : List Frame} {meth : Method} {c : Code} {H : Heap} {locs : List Loc} {cells slots : Nat} {Q : State → Prop}
variable {cc : ByteArray} {nL pc pc' : Nat} {la la' : mi_L} {st st' : List Value} {ad : List Nat} {cn : Nat → Nat} {ls : Array Slot} {lv : mi_L} {sw : List Value}
/-- the way on behind an instruction -/
abbrev mi_K (p : Program) (l : Launch) (e : Env) (R : Room) (s : State) (m : MethodId) (args : Array Value) (below : List Frame) (meth : Method) (c : Code) (H : Heap) (locs : List Loc) (cells slots : Nat) (Q : State → Prop) (nL pc' : Nat) (la' : mi_L) (st' : List Value) (ad : List Nat) (cn : Nat → Nat) : Prop :=
  ∀ (ls' : Array Slot) (lv' : mi_L) (sw' : List Value), lv_has ls' nL lv' → mi_rn ad cn la' lv' → mi_rl ad cn st' sw' → W p l e R s m args below meth c H locs cells slots Q (F0 m pc' ls' sw')

theorem mi_goto_ok (hx : p.tables.exec = Jvm.exec) (hb : c.code = cc) {off : Int} (hd : decode cc pc = .ok (.goto off, 3)) (h : mi_goto pc off la st = some (pc', la', st')) (hl : lv_has ls nL lv) (hn : mi_rn ad cn la lv) (hs : mi_rl ad cn st sw) (kk : mi_K p l e R s m args below meth c H locs cells slots Q nL pc' la' st' ad cn) : W p l e R s m args below meth c H locs cells slots Q (F0 m pc ls sw) := by
  obtain ⟨ht, rfl, rfl⟩ := mi_goto_inv h
  exact lv_goto hx hb hd ht (kk _ _ _ hl hn hs)
theorem mi_tab_ok (hx : p.tables.exec = Jvm.exec) (hb : c.code = cc) {d lo hi : Int} {offs : Array Int} {len : Nat} (hd : decode cc pc = .ok (.tableswitch d lo hi offs, len)) (h : mi_tab d lo hi offs pc la st = some (pc', la', st')) (hl : lv_has ls nL lv) (hn : mi_rn ad cn la lv) (hs : mi_rl ad cn st sw) (kk : mi_K p l e R s m args below meth c H locs cells slots Q nL pc' la' st' ad cn) : W p l e R s m args below meth c H locs cells slots Q (F0 m pc ls sw) := by
  unfold mi_tab at h
  split at h
  next x r =>
    obtain ⟨w, rfl, hr⟩ := mi_rl_i hs
    split at h
    next hc =>
      obtain ⟨ht, rfl, rfl⟩ := mi_goto_inv h
      exact lv_tableOut hx hb hd hc ht (kk _ _ _ hl hn hr)
    next hc =>
      split at h
      next off ho =>
        obtain ⟨ht, rfl, rfl⟩ := mi_goto_inv h
        exact lv_tableIn hx hb hd (fun q => hc (Or.inl q)) (fun q => hc (Or.inr q)) ho ht (kk _ _ _ hl hn hr)
      next => cases h
  next => cases h
theorem mi_lku_ok (hx : p.tables.exec = Jvm.exec) (hb : c.code = cc) {d : Int} {ps : Array (Int × Int)} {len : Nat} (hd : decode cc pc = .ok (.lookupswitch d ps, len)) (h : mi_lku d ps pc la st = some (pc', la', st')) (hl : lv_has ls nL lv) (hn : mi_rn ad cn la lv) (hs : mi_rl ad cn st sw) (kk : mi_K p l e R s m args below meth c H locs cells slots Q nL pc' la' st' ad cn) : W p l e R s m args below meth c H locs cells slots Q (F0 m pc ls sw) := by
  unfold mi_lku at h
  split at h
  next x r =>
    obtain ⟨w, rfl, hr⟩ := mi_rl_i hs
    split at h
    next hc =>
      obtain ⟨ht, rfl, rfl⟩ := mi_goto_inv h
      exact lv_lookup hx hb hd hc rfl ht (kk _ _ _ hl hn hr)
    next => cases h
  next => cases h
theorem mi_nul_ok (hx : p.tables.exec = Jvm.exec) (hb : c.code = cc) {off : Int} {isn : Bool} (hd : decode cc pc = .ok (if isn then .ifnull off else .ifnonnull off, 3)) (h : mi_nul isn pc off la st = some (pc', la', st')) (hl : lv_has ls nL lv) (hn : mi_rn ad cn la lv) (hs : mi_rl ad cn st sw) (kk : mi_K p l e R s m args below meth c H locs cells slots Q nL pc' la' st' ad cn) : W p l e R s m args below meth c H locs cells slots Q (F0 m pc ls sw) := by
  unfold mi_nul at h
  cases isn <;> simp only [if_true, if_false, Bool.false_eq_true] at h hd
  all_goals split at h
  all_goals first | (cases h; done) | skip
  · obtain ⟨w, ws', rfl, hw, hr⟩ := hs
    cases hw
    cases h
    exact lv_ifnonnullN hx hb hd (kk _ _ _ hl hn hr)
  · obtain ⟨w, ws', rfl, ⟨a, -, hw⟩, hr⟩ := hs
    cases hw
    obtain ⟨ht, rfl, rfl⟩ := mi_goto_inv h
    exact lv_ifnonnull hx hb hd ht (kk _ _ _ hl hn hr)
  · obtain ⟨w, ws', rfl, hw, hr⟩ := hs
    cases hw
    obtain ⟨ht, rfl, rfl⟩ := mi_goto_inv h
    exact lv_ifnonnull hx hb hd ht (kk _ _ _ hl hn hr)
  · obtain ⟨w, ws', rfl, hw, hr⟩ := hs
    cases hw
    obtain ⟨ht, rfl, rfl⟩ := mi_goto_inv h
    exact lv_ifnullN hx hb hd ht (kk _ _ _ hl hn hr)
  · obtain ⟨w, ws', rfl, ⟨a, -, hw⟩, hr⟩ := hs
    cases hw
    cases h
    exact lv_ifnull hx hb hd (kk _ _ _ hl hn hr)
  · obtain ⟨w, ws', rfl, hw, hr⟩ := hs
    cases hw
    cases h
    exact lv_ifnull hx hb hd (kk _ _ _ hl hn hr)

theorem mi_iload_ok (hx : p.tables.exec = Jvm.exec) (hb : c.code = cc) {k : Nat} (hd : decode cc pc = .ok (.iload k, 2)) (h : mi_ld mi_isI k (pc + 2) la st = some (pc', la', st')) (hl : lv_has ls nL lv) (hn : mi_rn ad cn la lv) (hs : mi_rl ad cn st sw) (kk : mi_K p l e R s m args below meth c H locs cells slots Q nL pc' la' st' ad cn) : W p l e R s m args below meth c H locs cells slots Q (F0 m pc ls sw) := by
  obtain ⟨v, hv, ho, rfl, rfl, rfl⟩ := mi_ld_inv h
  obtain ⟨k9, w9, h1, h2⟩ := mi_look_r hv hn
  cases v <;> simp only [mi_isI, Bool.false_eq_true] at ho
  have h2' : w9 = _ := h2
  subst h2'
  exact lv_iload hx hb hd (lv_at hl k9 h1) (kk _ _ _ hl hn (mi_rl_c rfl hs))
theorem mi_iload_n_ok (hx : p.tables.exec = Jvm.exec) (hb : c.code = cc) {k : Fin 4} (hd : decode cc pc = .ok (.iload_n k, 1)) (h : mi_ld mi_isI k (pc + 1) la st = some (pc', la', st')) (hl : lv_has ls nL lv) (hn : mi_rn ad cn la lv) (hs : mi_rl ad cn st sw) (kk : mi_K p l e R s m args below meth c H locs cells slots Q nL pc' la' st' ad cn) : W p l e R s m args below meth c H locs cells slots Q (F0 m pc ls sw) := by
  obtain ⟨v, hv, ho, rfl, rfl, rfl⟩ := mi_ld_inv h
  obtain ⟨k9, w9, h1, h2⟩ := mi_look_r hv hn
  cases v <;> simp only [mi_isI, Bool.false_eq_true] at ho
  have h2' : w9 = _ := h2
  subst h2'
  exact lv_iload_n hx hb hd rfl (lv_at hl k9 h1) (kk _ _ _ hl hn (mi_rl_c rfl hs))
theorem mi_lload_ok (hx : p.tables.exec = Jvm.exec) (hb : c.code = cc) {k : Nat} (hd : decode cc pc = .ok (.lload k, 2)) (h : mi_ld mi_isL k (pc + 2) la st = some (pc', la', st')) (hl : lv_has ls nL lv) (hn : mi_rn ad cn la lv) (hs : mi_rl ad cn st sw) (kk : mi_K p l e R s m args below meth c H locs cells slots Q nL pc' la' st' ad cn) : W p l e R s m args below meth c H locs cells slots Q (F0 m pc ls sw) := by
  obtain ⟨v, hv, ho, rfl, rfl, rfl⟩ := mi_ld_inv h
  obtain ⟨k9, w9, h1, h2⟩ := mi_look_r hv hn
  cases v <;> simp only [mi_isL, Bool.false_eq_true] at ho
  have h2' : w9 = _ := h2
  subst h2'
  exact lv_lload hx hb hd (lv_at hl k9 h1) (kk _ _ _ hl hn (mi_rl_c rfl hs))
theorem mi_lload_n_ok (hx : p.tables.exec = Jvm.exec) (hb : c.code = cc) {k : Fin 4} (hd : decode cc pc = .ok (.lload_n k, 1)) (h : mi_ld mi_isL k (pc + 1) la st = some (pc', la', st')) (hl : lv_has ls nL lv) (hn : mi_rn ad cn la lv) (hs : mi_rl ad cn st sw) (kk : mi_K p l e R s m args below meth c H locs cells slots Q nL pc' la' st' ad cn) : W p l e R s m args below meth c H locs cells slots Q (F0 m pc ls sw) := by
  obtain ⟨v, hv, ho, rfl, rfl, rfl⟩ := mi_ld_inv h
  obtain ⟨k9, w9, h1, h2⟩ := mi_look_r hv hn
  cases v <;> simp only [mi_isL, Bool.false_eq_true] at ho
  have h2' : w9 = _ := h2
  subst h2'
  exact lv_lload_n hx hb hd rfl (lv_at hl k9 h1) (kk _ _ _ hl hn (mi_rl_c rfl hs))
theorem mi_dload_ok (hx : p.tables.exec = Jvm.exec) (hb : c.code = cc) {k : Nat} (hd : decode cc pc = .ok (.dload k, 2)) (h : mi_ld mi_isD k (pc + 2) la st = some (pc', la', st')) (hl : lv_has ls nL lv) (hn : mi_rn ad cn la lv) (hs : mi_rl ad cn st sw) (kk : mi_K p l e R s m args below meth c H locs cells slots Q nL pc' la' st' ad cn) : W p l e R s m args below meth c H locs cells slots Q (F0 m pc ls sw) := by
  obtain ⟨v, hv, ho, rfl, rfl, rfl⟩ := mi_ld_inv h
  obtain ⟨k9, w9, h1, h2⟩ := mi_look_r hv hn
  cases v <;> simp only [mi_isD, Bool.false_eq_true] at ho
  have h2' : w9 = _ := h2
  subst h2'
  exact lv_dload hx hb hd (lv_at hl k9 h1) (kk _ _ _ hl hn (mi_rl_c rfl hs))
theorem mi_dload_n_ok (hx : p.tables.exec = Jvm.exec) (hb : c.code = cc) {k : Fin 4} (hd : decode cc pc = .ok (.dload_n k, 1)) (h : mi_ld mi_isD k (pc + 1) la st = some (pc', la', st')) (hl : lv_has ls nL lv) (hn : mi_rn ad cn la lv) (hs : mi_rl ad cn st sw) (kk : mi_K p l e R s m args below meth c H locs cells slots Q nL pc' la' st' ad cn) : W p l e R s m args below meth c H locs cells slots Q (F0 m pc ls sw) := by
  obtain ⟨v, hv, ho, rfl, rfl, rfl⟩ := mi_ld_inv h
  obtain ⟨k9, w9, h1, h2⟩ := mi_look_r hv hn
  cases v <;> simp only [mi_isD, Bool.false_eq_true] at ho
  have h2' : w9 = _ := h2
  subst h2'
  exact lv_dload_n hx hb hd rfl (lv_at hl k9 h1) (kk _ _ _ hl hn (mi_rl_c rfl hs))
theorem mi_aload_ok (hx : p.tables.exec = Jvm.exec) (hb : c.code = cc) {k : Nat} (hd : decode cc pc = .ok (.aload k, 2)) (h : mi_ld mi_isA k (pc + 2) la st = some (pc', la', st')) (hl : lv_has ls nL lv) (hn : mi_rn ad cn la lv) (hs : mi_rl ad cn st sw) (kk : mi_K p l e R s m args below meth c H locs cells slots Q nL pc' la' st' ad cn) : W p l e R s m args below meth c H locs cells slots Q (F0 m pc ls sw) := by
  obtain ⟨v, hv, ho, rfl, rfl, rfl⟩ := mi_ld_inv h
  obtain ⟨k9, w9, h1, h2⟩ := mi_look_r hv hn
  rcases mi_rv_A h2 ho with rfl | ⟨a, rfl⟩
  · exact lv_aloadN hx hb hd (lv_at hl k9 h1) (kk _ _ _ hl hn (mi_rl_c h2 hs))
  · exact lv_aload hx hb hd (lv_at hl k9 h1) (kk _ _ _ hl hn (mi_rl_c h2 hs))
theorem mi_aload_n_ok (hx : p.tables.exec = Jvm.exec) (hb : c.code = cc) {k : Fin 4} (hd : decode cc pc = .ok (.aload_n k, 1)) (h : mi_ld mi_isA k (pc + 1) la st = some (pc', la', st')) (hl : lv_has ls nL lv) (hn : mi_rn ad cn la lv) (hs : mi_rl ad cn st sw) (kk : mi_K p l e R s m args below meth c H locs cells slots Q nL pc' la' st' ad cn) : W p l e R s m args below meth c H locs cells slots Q (F0 m pc ls sw) := by
  obtain ⟨v, hv, ho, rfl, rfl, rfl⟩ := mi_ld_inv h
  obtain ⟨k9, w9, h1, h2⟩ := mi_look_r hv hn
  rcases mi_rv_A h2 ho with rfl | ⟨a, rfl⟩
  · exact lv_aload_nN hx hb hd rfl (lv_at hl k9 h1) (kk _ _ _ hl hn (mi_rl_c h2 hs))
  · exact lv_aload_n hx hb hd rfl (lv_at hl k9 h1) (kk _ _ _ hl hn (mi_rl_c h2 hs))
theorem mi_istore_ok (hx : p.tables.exec = Jvm.exec) (hb : c.code = cc) {k : Nat} (hd : decode cc pc = .ok (.istore k, 2)) (h : mi_st mi_isI nL k (pc + 2) la st = some (pc', la', st')) (hl : lv_has ls nL lv) (hn : mi_rn ad cn la lv) (hs : mi_rl ad cn st sw) (kk : mi_K p l e R s m args below meth c H locs cells slots Q nL pc' la' st' ad cn) : W p l e R s m args below meth c H locs cells slots Q (F0 m pc ls sw) := by
  obtain ⟨v, r, rfl, ho, hk, rfl, rfl, rfl⟩ := mi_st_inv h
  obtain ⟨w9, ws', rfl, hw, hr⟩ := hs
  cases v <;> simp only [mi_isI, Bool.false_eq_true] at ho
  have h2' : w9 = _ := hw
  subst h2'
  exact lv_istore hx hb hd hl hk rfl (fun ls' h' => kk _ _ _ h' (mi_s1_r hn rfl) hr)
theorem mi_istore_n_ok (hx : p.tables.exec = Jvm.exec) (hb : c.code = cc) {k : Fin 4} (hd : decode cc pc = .ok (.istore_n k, 1)) (h : mi_st mi_isI nL k (pc + 1) la st = some (pc', la', st')) (hl : lv_has ls nL lv) (hn : mi_rn ad cn la lv) (hs : mi_rl ad cn st sw) (kk : mi_K p l e R s m args below meth c H locs cells slots Q nL pc' la' st' ad cn) : W p l e R s m args below meth c H locs cells slots Q (F0 m pc ls sw) := by
  obtain ⟨v, r, rfl, ho, hk, rfl, rfl, rfl⟩ := mi_st_inv h
  obtain ⟨w9, ws', rfl, hw, hr⟩ := hs
  cases v <;> simp only [mi_isI, Bool.false_eq_true] at ho
  have h2' : w9 = _ := hw
  subst h2'
  exact lv_istore_n hx hb hd rfl hl hk rfl (fun ls' h' => kk _ _ _ h' (mi_s1_r hn rfl) hr)
theorem mi_lstore_ok (hx : p.tables.exec = Jvm.exec) (hb : c.code = cc) {k : Nat} (hd : decode cc pc = .ok (.lstore k, 2)) (h : mi_st2 mi_isL nL k (pc + 2) la st = some (pc', la', st')) (hl : lv_has ls nL lv) (hn : mi_rn ad cn la lv) (hs : mi_rl ad cn st sw) (kk : mi_K p l e R s m args below meth c H locs cells slots Q nL pc' la' st' ad cn) : W p l e R s m args below meth c H locs cells slots Q (F0 m pc ls sw) := by
  obtain ⟨v, r, rfl, ho, hk, rfl, rfl, rfl⟩ := mi_st2_inv h
  obtain ⟨w9, ws', rfl, hw, hr⟩ := hs
  cases v <;> simp only [mi_isL, Bool.false_eq_true] at ho
  have h2' : w9 = _ := hw
  subst h2'
  exact lv_lstore hx hb hd hl hk rfl (fun ls' h' => kk _ _ _ h' (mi_s2_r hn rfl) hr)
theorem mi_lstore_n_ok (hx : p.tables.exec = Jvm.exec) (hb : c.code = cc) {k : Fin 4} (hd : decode cc pc = .ok (.lstore_n k, 1)) (h : mi_st2 mi_isL nL k (pc + 1) la st = some (pc', la', st')) (hl : lv_has ls nL lv) (hn : mi_rn ad cn la lv) (hs : mi_rl ad cn st sw) (kk : mi_K p l e R s m args below meth c H locs cells slots Q nL pc' la' st' ad cn) : W p l e R s m args below meth c H locs cells slots Q (F0 m pc ls sw) := by
  obtain ⟨v, r, rfl, ho, hk, rfl, rfl, rfl⟩ := mi_st2_inv h
  obtain ⟨w9, ws', rfl, hw, hr⟩ := hs
  cases v <;> simp only [mi_isL, Bool.false_eq_true] at ho
  have h2' : w9 = _ := hw
  subst h2'
  exact lv_lstore_n hx hb hd rfl hl hk rfl (fun ls' h' => kk _ _ _ h' (mi_s2_r hn rfl) hr)
theorem mi_dstore_ok (hx : p.tables.exec = Jvm.exec) (hb : c.code = cc) {k : Nat} (hd : decode cc pc = .ok (.dstore k, 2)) (h : mi_st2 mi_isD nL k (pc + 2) la st = some (pc', la', st')) (hl : lv_has ls nL lv) (hn : mi_rn ad cn la lv) (hs : mi_rl ad cn st sw) (kk : mi_K p l e R s m args below meth c H locs cells slots Q nL pc' la' st' ad cn) : W p l e R s m args below meth c H locs cells slots Q (F0 m pc ls sw) := by
  obtain ⟨v, r, rfl, ho, hk, rfl, rfl, rfl⟩ := mi_st2_inv h
  obtain ⟨w9, ws', rfl, hw, hr⟩ := hs
  cases v <;> simp only [mi_isD, Bool.false_eq_true] at ho
  have h2' : w9 = _ := hw
  subst h2'
  exact lv_dstore hx hb hd hl hk rfl (fun ls' h' => kk _ _ _ h' (mi_s2_r hn rfl) hr)
theorem mi_dstore_n_ok (hx : p.tables.exec = Jvm.exec) (hb : c.code = cc) {k : Fin 4} (hd : decode cc pc = .ok (.dstore_n k, 1)) (h : mi_st2 mi_isD nL k (pc + 1) la st = some (pc', la', st')) (hl : lv_has ls nL lv) (hn : mi_rn ad cn la lv) (hs : mi_rl ad cn st sw) (kk : mi_K p l e R s m args below meth c H locs cells slots Q nL pc' la' st' ad cn) : W p l e R s m args below meth c H locs cells slots Q (F0 m pc ls sw) := by
  obtain ⟨v, r, rfl, ho, hk, rfl, rfl, rfl⟩ := mi_st2_inv h
  obtain ⟨w9, ws', rfl, hw, hr⟩ := hs
  cases v <;> simp only [mi_isD, Bool.false_eq_true] at ho
  have h2' : w9 = _ := hw
  subst h2'
  exact lv_dstore_n hx hb hd rfl hl hk rfl (fun ls' h' => kk _ _ _ h' (mi_s2_r hn rfl) hr)
theorem mi_astore_ok (hx : p.tables.exec = Jvm.exec) (hb : c.code = cc) {k : Nat} (hd : decode cc pc = .ok (.astore k, 2)) (h : mi_st mi_isA nL k (pc + 2) la st = some (pc', la', st')) (hl : lv_has ls nL lv) (hn : mi_rn ad cn la lv) (hs : mi_rl ad cn st sw) (kk : mi_K p l e R s m args below meth c H locs cells slots Q nL pc' la' st' ad cn) : W p l e R s m args below meth c H locs cells slots Q (F0 m pc ls sw) := by
  obtain ⟨v, r, rfl, ho, hk, rfl, rfl, rfl⟩ := mi_st_inv h
  obtain ⟨w9, ws', rfl, hw, hr⟩ := hs
  rcases mi_rv_A hw ho with rfl | ⟨a, rfl⟩
  · exact lv_astoreN hx hb hd hl hk rfl (fun ls' h' => kk _ _ _ h' (mi_s1_r hn hw) hr)
  · exact lv_astore hx hb hd hl hk rfl (fun ls' h' => kk _ _ _ h' (mi_s1_r hn hw) hr)
theorem mi_astore_n_ok (hx : p.tables.exec = Jvm.exec) (hb : c.code = cc) {k : Fin 4} (hd : decode cc pc = .ok (.astore_n k, 1)) (h : mi_st mi_isA nL k (pc + 1) la st = some (pc', la', st')) (hl : lv_has ls nL lv) (hn : mi_rn ad cn la lv) (hs : mi_rl ad cn st sw) (kk : mi_K p l e R s m args below meth c H locs cells slots Q nL pc' la' st' ad cn) : W p l e R s m args below meth c H locs cells slots Q (F0 m pc ls sw) := by
  obtain ⟨v, r, rfl, ho, hk, rfl, rfl, rfl⟩ := mi_st_inv h
  obtain ⟨w9, ws', rfl, hw, hr⟩ := hs
  rcases mi_rv_A hw ho with rfl | ⟨a, rfl⟩
  · exact lv_astore_nN hx hb hd rfl hl hk rfl (fun ls' h' => kk _ _ _ h' (mi_s1_r hn hw) hr)
  · exact lv_astore_n hx hb hd rfl hl hk rfl (fun ls' h' => kk _ _ _ h' (mi_s1_r hn hw) hr)
theorem mi_iinc_ok (hx : p.tables.exec = Jvm.exec) (hb : c.code = cc) {k : Nat} {n : Int} (hd : decode cc pc = .ok (.iinc k n, 3)) (h : mi_iinc nL k n (pc + 3) la st = some (pc', la', st')) (hl : lv_has ls nL lv) (hn : mi_rn ad cn la lv) (hs : mi_rl ad cn st sw) (kk : mi_K p l e R s m args below meth c H locs cells slots Q nL pc' la' st' ad cn) : W p l e R s m args below meth c H locs cells slots Q (F0 m pc ls sw) := by
  unfold mi_iinc at h
  split at h
  next x hv =>
    obtain ⟨k9, w9, h1, h2⟩ := mi_look_r hv hn
    have h2' : w9 = _ := h2
    subst h2'
    split at h
    next hk =>
      cases h
      exact lv_iinc hx hb hd hl h1 rfl hk rfl (fun ls' h' => kk _ _ _ h' (mi_s1_r hn rfl) hs)
    next => cases h
  next => cases h
theorem mi_dup_ok (hx : p.tables.exec = Jvm.exec) (hb : c.code = cc) (hd : decode cc pc = .ok (.dup, 1)) (h : mi_dup (pc + 1) la st = some (pc', la', st')) (hl : lv_has ls nL lv) (hn : mi_rn ad cn la lv) (hs : mi_rl ad cn st sw) (kk : mi_K p l e R s m args below meth c H locs cells slots Q nL pc' la' st' ad cn) : W p l e R s m args below meth c H locs cells slots Q (F0 m pc ls sw) := by
  unfold mi_dup at h
  split at h
  next v r =>
    split at h
    next hc =>
      cases h
      obtain ⟨w9, ws', rfl, hw, hr⟩ := hs
      exact lv_dup hx hb hd ((mi_rv_cat hw).trans hc) (kk _ _ _ hl hn (mi_rl_c hw (mi_rl_c hw hr)))
    next => cases h
  next => cases h
theorem mi_pop_ok (hx : p.tables.exec = Jvm.exec) (hb : c.code = cc) (hd : decode cc pc = .ok (.pop, 1)) (h : mi_pop (pc + 1) la st = some (pc', la', st')) (hl : lv_has ls nL lv) (hn : mi_rn ad cn la lv) (hs : mi_rl ad cn st sw) (kk : mi_K p l e R s m args below meth c H locs cells slots Q nL pc' la' st' ad cn) : W p l e R s m args below meth c H locs cells slots Q (F0 m pc ls sw) := by
  unfold mi_pop at h
  split at h
  next v r =>
    split at h
    next hc =>
      cases h
      obtain ⟨w9, ws', rfl, hw, hr⟩ := hs
      exact lv_pop hx hb hd ((mi_rv_cat hw).trans hc) (kk _ _ _ hl hn hr)
    next => cases h
  next => cases h
theorem mi_pop2_ok (hx : p.tables.exec = Jvm.exec) (hb : c.code = cc) (hd : decode cc pc = .ok (.pop2, 1)) (h : mi_pop2 (pc + 1) la st = some (pc', la', st')) (hl : lv_has ls nL lv) (hn : mi_rn ad cn la lv) (hs : mi_rl ad cn st sw) (kk : mi_K p l e R s m args below meth c H locs cells slots Q nL pc' la' st' ad cn) : W p l e R s m args below meth c H locs cells slots Q (F0 m pc ls sw) := by
  unfold mi_pop2 at h
  split at h
  next v r =>
    split at h
    next hc =>
      cases h
      obtain ⟨w9, ws', rfl, hw, hr⟩ := hs
      exact lv_pop2_2 hx hb hd ((mi_rv_cat hw).trans hc) (kk _ _ _ hl hn hr)
    next => cases h
  next => cases h
theorem mi_dupx1_ok (hx : p.tables.exec = Jvm.exec) (hb : c.code = cc) (hd : decode cc pc = .ok (.dup_x1, 1)) (h : mi_dupx1 (pc + 1) la st = some (pc', la', st')) (hl : lv_has ls nL lv) (hn : mi_rn ad cn la lv) (hs : mi_rl ad cn st sw) (kk : mi_K p l e R s m args below meth c H locs cells slots Q nL pc' la' st' ad cn) : W p l e R s m args below meth c H locs cells slots Q (F0 m pc ls sw) := by
  unfold mi_dupx1 at h
  split at h
  next v w r =>
    split at h
    next hc =>
      cases h
      obtain ⟨w9, ws', rfl, hw, w8, ws8, rfl, hw8, hr⟩ := hs
      exact lv_dup_x1 hx hb hd ((mi_rv_cat hw).trans hc.1) ((mi_rv_cat hw8).trans hc.2) (kk _ _ _ hl hn (mi_rl_c hw (mi_rl_c hw8 (mi_rl_c hw hr))))
    next => cases h
  next => cases h
theorem mi_dup2_ok (hx : p.tables.exec = Jvm.exec) (hb : c.code = cc) (hd : decode cc pc = .ok (.dup2, 1)) (h : mi_dup2 (pc + 1) la st = some (pc', la', st')) (hl : lv_has ls nL lv) (hn : mi_rn ad cn la lv) (hs : mi_rl ad cn st sw) (kk : mi_K p l e R s m args below meth c H locs cells slots Q nL pc' la' st' ad cn) : W p l e R s m args below meth c H locs cells slots Q (F0 m pc ls sw) := by
  unfold mi_dup2 at h
  split at h
  next v r =>
    split at h
    next hc =>
      cases h
      obtain ⟨w9, ws', rfl, hw, hr⟩ := hs
      exact lv_dup2_2 hx hb hd ((mi_rv_cat hw).trans hc) (kk _ _ _ hl hn (mi_rl_c hw (mi_rl_c hw hr)))
    next =>
      split at h
      next w r' =>
        split at h
        next hc =>
          cases h
          obtain ⟨w9, ws', rfl, hw, w8, ws8, rfl, hw8, hr⟩ := hs
          exact lv_dup2_11 hx hb hd ((mi_rv_cat hw).trans hc.1) ((mi_rv_cat hw8).trans hc.2) (kk _ _ _ hl hn (mi_rl_c hw (mi_rl_c hw8 (mi_rl_c hw (mi_rl_c hw8 hr)))))
        next => cases h
      next => cases h
  next => cases h
theorem mi_if_ok (hx : p.tables.exec = Jvm.exec) (hb : c.code = cc) {k : ClassFile.Cond} {off : Int} (hd : decode cc pc = .ok (.ifCond k off, 3)) (h : mi_c1 (fun x => mi_cc k x 0) pc off la st = some (pc', la', st')) (hl : lv_has ls nL lv) (hn : mi_rn ad cn la lv) (hs : mi_rl ad cn st sw) (kk : mi_K p l e R s m args below meth c H locs cells slots Q nL pc' la' st' ad cn) : W p l e R s m args below meth c H locs cells slots Q (F0 m pc ls sw) := by
  obtain ⟨x, r, t, rfl, rfl, rfl, ht, rfl⟩ := mi_c1_inv h
  obtain ⟨w, rfl, hr⟩ := mi_rl_i hs
  have go := kk _ _ _ hl hn hr
  cases k
  · refine lv_if_eq hx hb hd ht (fun q => ?_) (fun q => ?_)
    · simpa [mi_cc, q] using go
    · simpa [mi_cc, q] using go
  · refine lv_if_ne hx hb hd ht (fun q => ?_) (fun q => ?_)
    · simpa [mi_cc, q] using go
    · simpa [mi_cc, q] using go
  · refine lv_if_lt hx hb hd ht (fun q => ?_) (fun q => ?_)
    · simpa [mi_cc, q] using go
    · simpa [mi_cc, q] using go
  · refine lv_if_ge hx hb hd ht (fun q => ?_) (fun q => ?_)
    · simpa [mi_cc, q] using go
    · simpa [mi_cc, q] using go
  · refine lv_if_gt hx hb hd ht (fun q => ?_) (fun q => ?_)
    · simpa [mi_cc, q] using go
    · simpa [mi_cc, q] using go
  · refine lv_if_le hx hb hd ht (fun q => ?_) (fun q => ?_)
    · simpa [mi_cc, q] using go
    · simpa [mi_cc, q] using go
theorem mi_icmp_ok (hx : p.tables.exec = Jvm.exec) (hb : c.code = cc) {k : ClassFile.Cond} {off : Int} (hd : decode cc pc = .ok (.if_icmp k off, 3)) (h : mi_c2 (fun x y => mi_cc k x y) pc off la st = some (pc', la', st')) (hl : lv_has ls nL lv) (hn : mi_rn ad cn la lv) (hs : mi_rl ad cn st sw) (kk : mi_K p l e R s m args below meth c H locs cells slots Q nL pc' la' st' ad cn) : W p l e R s m args below meth c H locs cells slots Q (F0 m pc ls sw) := by
  obtain ⟨x, y, r, t, rfl, rfl, rfl, ht, rfl⟩ := mi_c2_inv h
  obtain ⟨w, rfl, hr⟩ := mi_rl_ii hs
  have go := kk _ _ _ hl hn hr
  cases k
  · refine lv_icmp_eq hx hb hd ht (fun q => ?_) (fun q => ?_)
    · simpa [mi_cc, q] using go
    · simpa [mi_cc, q] using go
  · refine lv_icmp_ne hx hb hd ht (fun q => ?_) (fun q => ?_)
    · simpa [mi_cc, q] using go
    · simpa [mi_cc, q] using go
  · refine lv_icmp_lt hx hb hd ht (fun q => ?_) (fun q => ?_)
    · simpa [mi_cc, q] using go
    · simpa [mi_cc, q] using go
  · refine lv_icmp_ge hx hb hd ht (fun q => ?_) (fun q => ?_)
    · simpa [mi_cc, q] using go
    · simpa [mi_cc, q] using go
  · refine lv_icmp_gt hx hb hd ht (fun q => ?_) (fun q => ?_)
    · simpa [mi_cc, q] using go
    · simpa [mi_cc, q] using go
  · refine lv_icmp_le hx hb hd ht (fun q => ?_) (fun q => ?_)
    · simpa [mi_cc, q] using go
    · simpa [mi_cc, q] using go
set_option maxHeartbeats 4000000 in
theorem mi_pu_ok (hx : p.tables.exec = Jvm.exec) (hb : c.code = cc) {i : Instr} (hd : decode cc pc = .ok (i, mi_len i)) (h : mi_pu nL i pc la st = some (pc', la', st')) (hl : lv_has ls nL lv) (hn : mi_rn ad cn la lv) (hs : mi_rl ad cn st sw) (kk : mi_K p l e R s m args below meth c H locs cells slots Q nL pc' la' st' ad cn) : W p l e R s m args below meth c H locs cells slots Q (F0 m pc ls sw) := by
  cases i
  case aconst_null => cases h; exact lv_null hx hb hd (kk _ _ _ hl hn (mi_rl_c rfl hs))
  case iconst => cases h; exact lv_iconst hx hb hd rfl (kk _ _ _ hl hn (mi_rl_c rfl hs))
  case bipush => cases h; exact lv_bipush hx hb hd rfl (kk _ _ _ hl hn (mi_rl_c rfl hs))
  case sipush => cases h; exact lv_sipush hx hb hd rfl (kk _ _ _ hl hn (mi_rl_c rfl hs))
  case lconst => cases h; exact lv_lconst hx hb hd rfl (kk _ _ _ hl hn (mi_rl_c rfl hs))
  case dconst n =>
    match n, hd, h with
    | 0, hd, h => cases h; exact lv_dconst0 hx hb hd (kk _ _ _ hl hn (mi_rl_c rfl hs))
    | 1, hd, h => cases h; exact lv_dconst1 hx hb hd (kk _ _ _ hl hn (mi_rl_c rfl hs))
  case iload => exact mi_iload_ok hx hb hd h hl hn hs kk
  case iload_n => exact mi_iload_n_ok hx hb hd h hl hn hs kk
  case lload => exact mi_lload_ok hx hb hd h hl hn hs kk
  case lload_n => exact mi_lload_n_ok hx hb hd h hl hn hs kk
  case dload => exact mi_dload_ok hx hb hd h hl hn hs kk
  case dload_n => exact mi_dload_n_ok hx hb hd h hl hn hs kk
  case aload => exact mi_aload_ok hx hb hd h hl hn hs kk
  case aload_n => exact mi_aload_n_ok hx hb hd h hl hn hs kk
  case istore => exact mi_istore_ok hx hb hd h hl hn hs kk
  case istore_n => exact mi_istore_n_ok hx hb hd h hl hn hs kk
  case lstore => exact mi_lstore_ok hx hb hd h hl hn hs kk
  case lstore_n => exact mi_lstore_n_ok hx hb hd h hl hn hs kk
  case dstore => exact mi_dstore_ok hx hb hd h hl hn hs kk
  case dstore_n => exact mi_dstore_n_ok hx hb hd h hl hn hs kk
  case astore => exact mi_astore_ok hx hb hd h hl hn hs kk
  case astore_n => exact mi_astore_n_ok hx hb hd h hl hn hs kk
  case iinc => exact mi_iinc_ok hx hb hd h hl hn hs kk
  case iadd => dsimp only [mi_pu] at h; obtain ⟨x, y, v, r, rfl, hv, rfl, rfl, rfl⟩ := mi_ii_inv h; obtain ⟨w, rfl, hr⟩ := mi_rl_ii hs; cases hv; exact lv_iadd hx hb hd (kk _ _ _ hl hn (mi_rl_c rfl hr))
  case isub => dsimp only [mi_pu] at h; obtain ⟨x, y, v, r, rfl, hv, rfl, rfl, rfl⟩ := mi_ii_inv h; obtain ⟨w, rfl, hr⟩ := mi_rl_ii hs; cases hv; exact lv_isub hx hb hd (kk _ _ _ hl hn (mi_rl_c rfl hr))
  case imul => dsimp only [mi_pu] at h; obtain ⟨x, y, v, r, rfl, hv, rfl, rfl, rfl⟩ := mi_ii_inv h; obtain ⟨w, rfl, hr⟩ := mi_rl_ii hs; cases hv; exact lv_imul hx hb hd (kk _ _ _ hl hn (mi_rl_c rfl hr))
  case iand => dsimp only [mi_pu] at h; obtain ⟨x, y, v, r, rfl, hv, rfl, rfl, rfl⟩ := mi_ii_inv h; obtain ⟨w, rfl, hr⟩ := mi_rl_ii hs; cases hv; exact lv_iand hx hb hd (kk _ _ _ hl hn (mi_rl_c rfl hr))
  case ior => dsimp only [mi_pu] at h; obtain ⟨x, y, v, r, rfl, hv, rfl, rfl, rfl⟩ := mi_ii_inv h; obtain ⟨w, rfl, hr⟩ := mi_rl_ii hs; cases hv; exact lv_ior hx hb hd (kk _ _ _ hl hn (mi_rl_c rfl hr))
  case ixor => dsimp only [mi_pu] at h; obtain ⟨x, y, v, r, rfl, hv, rfl, rfl, rfl⟩ := mi_ii_inv h; obtain ⟨w, rfl, hr⟩ := mi_rl_ii hs; cases hv; exact lv_ixor hx hb hd (kk _ _ _ hl hn (mi_rl_c rfl hr))
  case ishl => dsimp only [mi_pu] at h; obtain ⟨x, y, v, r, rfl, hv, rfl, rfl, rfl⟩ := mi_ii_inv h; obtain ⟨w, rfl, hr⟩ := mi_rl_ii hs; cases hv; exact lv_ishl hx hb hd (kk _ _ _ hl hn (mi_rl_c rfl hr))
  case ishr => dsimp only [mi_pu] at h; obtain ⟨x, y, v, r, rfl, hv, rfl, rfl, rfl⟩ := mi_ii_inv h; obtain ⟨w, rfl, hr⟩ := mi_rl_ii hs; cases hv; exact lv_ishr hx hb hd (kk _ _ _ hl hn (mi_rl_c rfl hr))
  case iushr => dsimp only [mi_pu] at h; obtain ⟨x, y, v, r, rfl, hv, rfl, rfl, rfl⟩ := mi_ii_inv h; obtain ⟨w, rfl, hr⟩ := mi_rl_ii hs; cases hv; exact lv_iushr hx hb hd rfl (kk _ _ _ hl hn (mi_rl_c rfl hr))
  case idiv =>
    dsimp only [mi_pu] at h
    obtain ⟨x, y, v, r, rfl, hv, rfl, rfl, rfl⟩ := mi_ii_inv h
    obtain ⟨w, rfl, hr⟩ := mi_rl_ii hs
    by_cases h0 : y = 0
    · simp [h0] at hv
    · simp only [h0, if_false] at hv
      cases hv
      exact lv_idiv hx hb hd h0 (kk _ _ _ hl hn (mi_rl_c rfl hr))
  case irem =>
    dsimp only [mi_pu] at h
    obtain ⟨x, y, v, r, rfl, hv, rfl, rfl, rfl⟩ := mi_ii_inv h
    obtain ⟨w, rfl, hr⟩ := mi_rl_ii hs
    by_cases h0 : y = 0
    · simp [h0] at hv
    · simp only [h0, if_false] at hv
      cases hv
      exact lv_irem hx hb hd h0 (kk _ _ _ hl hn (mi_rl_c rfl hr))
  case ldiv =>
    dsimp only [mi_pu] at h
    obtain ⟨x, y, v, r, rfl, hv, rfl, rfl, rfl⟩ := mi_ll_inv h
    obtain ⟨w, rfl, hr⟩ := mi_rl_ll hs
    by_cases h0 : y = 0
    · simp [h0] at hv
    · simp only [h0, if_false] at hv
      cases hv
      exact lv_ldiv hx hb hd h0 (kk _ _ _ hl hn (mi_rl_c rfl hr))
  case lrem =>
    dsimp only [mi_pu] at h
    obtain ⟨x, y, v, r, rfl, hv, rfl, rfl, rfl⟩ := mi_ll_inv h
    obtain ⟨w, rfl, hr⟩ := mi_rl_ll hs
    by_cases h0 : y = 0
    · simp [h0] at hv
    · simp only [h0, if_false] at hv
      cases hv
      exact lv_lrem hx hb hd h0 (kk _ _ _ hl hn (mi_rl_c rfl hr))
  case ineg => dsimp only [mi_pu] at h; obtain ⟨x, r, rfl, rfl, rfl, rfl⟩ := mi_i1_inv h; obtain ⟨w, rfl, hr⟩ := mi_rl_i hs; exact lv_ineg hx hb hd (kk _ _ _ hl hn (mi_rl_c rfl hr))
  case i2l => dsimp only [mi_pu] at h; obtain ⟨x, r, rfl, rfl, rfl, rfl⟩ := mi_i1_inv h; obtain ⟨w, rfl, hr⟩ := mi_rl_i hs; exact lv_i2l hx hb hd rfl (kk _ _ _ hl hn (mi_rl_c rfl hr))
  case i2b => dsimp only [mi_pu] at h; obtain ⟨x, r, rfl, rfl, rfl, rfl⟩ := mi_i1_inv h; obtain ⟨w, rfl, hr⟩ := mi_rl_i hs; exact lv_i2b hx hb hd rfl (kk _ _ _ hl hn (mi_rl_c rfl hr))
  case i2s => dsimp only [mi_pu] at h; obtain ⟨x, r, rfl, rfl, rfl, rfl⟩ := mi_i1_inv h; obtain ⟨w, rfl, hr⟩ := mi_rl_i hs; exact lv_i2s hx hb hd rfl (kk _ _ _ hl hn (mi_rl_c rfl hr))
  case i2c => dsimp only [mi_pu] at h; obtain ⟨x, r, rfl, rfl, rfl, rfl⟩ := mi_i1_inv h; obtain ⟨w, rfl, hr⟩ := mi_rl_i hs; exact lv_i2c hx hb hd rfl (kk _ _ _ hl hn (mi_rl_c rfl hr))
  case i2d => dsimp only [mi_pu] at h; obtain ⟨x, r, rfl, rfl, rfl, rfl⟩ := mi_i1_inv h; obtain ⟨w, rfl, hr⟩ := mi_rl_i hs; exact lv_i2d hx hb hd (kk _ _ _ hl hn (mi_rl_c rfl hr))
  case l2i => dsimp only [mi_pu] at h; obtain ⟨x, r, rfl, rfl, rfl, rfl⟩ := mi_l1_inv h; obtain ⟨w, rfl, hr⟩ := mi_rl_l hs; exact lv_l2i hx hb hd rfl (kk _ _ _ hl hn (mi_rl_c rfl hr))
  case l2d => dsimp only [mi_pu] at h; obtain ⟨x, r, rfl, rfl, rfl, rfl⟩ := mi_l1_inv h; obtain ⟨w, rfl, hr⟩ := mi_rl_l hs; exact lv_l2d hx hb hd (kk _ _ _ hl hn (mi_rl_c rfl hr))
  case ladd => dsimp only [mi_pu] at h; obtain ⟨x, y, v, r, rfl, hv, rfl, rfl, rfl⟩ := mi_ll_inv h; obtain ⟨w, rfl, hr⟩ := mi_rl_ll hs; cases hv; exact lv_ladd hx hb hd (kk _ _ _ hl hn (mi_rl_c rfl hr))
  case lsub => dsimp only [mi_pu] at h; obtain ⟨x, y, v, r, rfl, hv, rfl, rfl, rfl⟩ := mi_ll_inv h; obtain ⟨w, rfl, hr⟩ := mi_rl_ll hs; cases hv; exact lv_lsub hx hb hd (kk _ _ _ hl hn (mi_rl_c rfl hr))
  case lmul => dsimp only [mi_pu] at h; obtain ⟨x, y, v, r, rfl, hv, rfl, rfl, rfl⟩ := mi_ll_inv h; obtain ⟨w, rfl, hr⟩ := mi_rl_ll hs; cases hv; exact lv_lmul hx hb hd (kk _ _ _ hl hn (mi_rl_c rfl hr))
  case land => dsimp only [mi_pu] at h; obtain ⟨x, y, v, r, rfl, hv, rfl, rfl, rfl⟩ := mi_ll_inv h; obtain ⟨w, rfl, hr⟩ := mi_rl_ll hs; cases hv; exact lv_land hx hb hd (kk _ _ _ hl hn (mi_rl_c rfl hr))
  case lor => dsimp only [mi_pu] at h; obtain ⟨x, y, v, r, rfl, hv, rfl, rfl, rfl⟩ := mi_ll_inv h; obtain ⟨w, rfl, hr⟩ := mi_rl_ll hs; cases hv; exact lv_lor hx hb hd (kk _ _ _ hl hn (mi_rl_c rfl hr))
  case lxor => dsimp only [mi_pu] at h; obtain ⟨x, y, v, r, rfl, hv, rfl, rfl, rfl⟩ := mi_ll_inv h; obtain ⟨w, rfl, hr⟩ := mi_rl_ll hs; cases hv; exact lv_lxor hx hb hd (kk _ _ _ hl hn (mi_rl_c rfl hr))
  case lcmp => dsimp only [mi_pu] at h; obtain ⟨x, y, v, r, rfl, hv, rfl, rfl, rfl⟩ := mi_ll_inv h; obtain ⟨w, rfl, hr⟩ := mi_rl_ll hs; cases hv; exact W.lcmp hx hb hd (kk _ _ _ hl hn (mi_rl_c rfl hr))
  case lshl => dsimp only [mi_pu] at h; obtain ⟨x, y, r, rfl, rfl, rfl, rfl⟩ := mi_li_inv h; obtain ⟨w, rfl, hr⟩ := mi_rl_li hs; exact lv_lshl hx hb hd rfl (kk _ _ _ hl hn (mi_rl_c rfl hr))
  case lshr => dsimp only [mi_pu] at h; obtain ⟨x, y, r, rfl, rfl, rfl, rfl⟩ := mi_li_inv h; obtain ⟨w, rfl, hr⟩ := mi_rl_li hs; exact lv_lshr hx hb hd rfl (kk _ _ _ hl hn (mi_rl_c rfl hr))
  case lushr => dsimp only [mi_pu] at h; obtain ⟨x, y, r, rfl, rfl, rfl, rfl⟩ := mi_li_inv h; obtain ⟨w, rfl, hr⟩ := mi_rl_li hs; exact lv_lushr hx hb hd rfl (kk _ _ _ hl hn (mi_rl_c rfl hr))
  case ddiv =>
    dsimp only [mi_pu] at h
    obtain ⟨x, y, v, r, rfl, hv, rfl, rfl, rfl⟩ := mi_dd_inv h
    obtain ⟨w, rfl, hr⟩ := mi_rl_dd hs
    by_cases h0 : FP.ddiv x y &&& 0x7fffffffffffffff ≤ 0x7ff0000000000000
    · simp only [h0, if_true] at hv
      cases hv
      exact lv_ddiv hx hb hd h0 (kk _ _ _ hl hn (mi_rl_c rfl hr))
    · simp [h0] at hv
  case dcmp => dsimp only [mi_pu] at h; obtain ⟨x, y, v, r, rfl, hv, rfl, rfl, rfl⟩ := mi_dd_inv h; obtain ⟨w, rfl, hr⟩ := mi_rl_dd hs; cases hv; exact lv_dcmp hx hb hd (kk _ _ _ hl hn (mi_rl_c rfl hr))
  case dup => exact mi_dup_ok hx hb hd h hl hn hs kk
  case pop => exact mi_pop_ok hx hb hd h hl hn hs kk
  case pop2 => exact mi_pop2_ok hx hb hd h hl hn hs kk
  case dup_x1 => exact mi_dupx1_ok hx hb hd h hl hn hs kk
  case dup2 => exact mi_dup2_ok hx hb hd h hl hn hs kk
  case ifCond => exact mi_if_ok hx hb hd h hl hn hs kk
  case if_icmp => exact mi_icmp_ok hx hb hd h hl hn hs kk
  case ifnull => exact mi_nul_ok (isn := true) hx hb hd h hl hn hs kk
  case ifnonnull => exact mi_nul_ok (isn := false) hx hb hd h hl hn hs kk
  case goto => exact mi_goto_ok hx hb hd h hl hn hs kk
  all_goals (cases h)
theorem mi_pure_ok (hx : p.tables.exec = Jvm.exec) (hb : c.code = cc) {i : Instr} {len : Nat} (hd : decode cc pc = .ok (i, len)) (h : mi_pure nL len i pc la st = some (pc', la', st')) (hl : lv_has ls nL lv) (hn : mi_rn ad cn la lv) (hs : mi_rl ad cn st sw) (kk : mi_K p l e R s m args below meth c H locs cells slots Q nL pc' la' st' ad cn) : W p l e R s m args below meth c H locs cells slots Q (F0 m pc ls sw) := by
  unfold mi_pure at h
  split at h
  next d lo hi offs => exact mi_tab_ok hx hb hd h hl hn hs kk
  next d ps => exact mi_lku_ok hx hb hd h hl hn hs kk
  next i' =>
    split at h
    next hl2 =>
      subst hl2
      exact mi_pu_ok hx hb hd h hl hn hs kk
    next => cases h
end MIP
