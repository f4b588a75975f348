/-! ===== calls: a method's contract out of its run ===== -/
theorem mi_rl_app {ad : List Nat} {cn : Nat → Nat} : ∀ {a b c d : List Value}, mi_rl ad cn a c → mi_rl ad cn b d → mi_rl ad cn (a ++ b) (c ++ d)
  | [], _, _, _, h, h2 => by
    have h' : _ = [] := h
    subst h'
    exact h2
  | _ :: _, _, _, _, ⟨w, ws', rfl, ha, hb⟩, h2 => ⟨w, ws' ++ _, rfl, ha, mi_rl_app hb h2⟩
theorem mi_rl_cat {ad : List Nat} {cn : Nat → Nat} : ∀ {a c : List Value}, mi_rl ad cn a c → (c.map fun v => v.category).sum = mi_cat a
  | [], _, h => by
    have h' : _ = [] := h
    subst h'
    rfl
  | v :: r, _, ⟨w, ws', rfl, ha, hb⟩ => by
    have ih := mi_rl_cat hb
    simp only [mi_cat, List.map_cons, List.sum_cons] at ih ⊢
    rw [ih, mi_rv_cat ha]
theorem mi_split {ad : List Nat} {cn : Nat → Nat} : ∀ (n : Nat) {st sw : List Value}, mi_rl ad cn st sw → n < st.length → ∃ (As : List Value) (b : Value) (rest : List Value), sw = As.reverse ++ b :: rest ∧ As.length = n ∧ mi_rv ad cn (st.getD n .null) b ∧ mi_rl ad cn (st.take (n + 1)).reverse (b :: As) ∧ mi_rl ad cn (st.drop (n + 1)) rest
  | _, [], _, _, hn => absurd hn (Nat.not_lt_zero _)
  | 0, v :: vs, _, ⟨w, ws', rfl, ha, hb⟩, _ => ⟨[], w, ws', rfl, rfl, ha, ⟨w, [], rfl, ha, rfl⟩, hb⟩
  | n + 1, v :: vs, _, ⟨w, ws', rfl, ha, hb⟩, hn => by
    obtain ⟨As, b, rest, rfl, h2, h3, h4, h5⟩ := mi_split n hb (Nat.lt_of_succ_lt_succ hn)
    refine ⟨As ++ [w], b, rest, by simp, by simp [h2], h3, ?_, h5⟩
    have e : ((v :: vs).take (n + 1 + 1)).reverse = (vs.take (n + 1)).reverse ++ [v] := by simp
    rw [e]
    exact mi_rl_app (c := b :: As) h4 ⟨w, [], rfl, ha, rfl⟩
theorem mi_splitS {ad : List Nat} {cn : Nat → Nat} : ∀ (n : Nat) {st sw : List Value}, mi_rl ad cn st sw → n ≤ st.length → ∃ (As : List Value) (rest : List Value), sw = As.reverse ++ rest ∧ As.length = n ∧ mi_rl ad cn (st.take n).reverse As ∧ mi_rl ad cn (st.drop n) rest
  | 0, _, sw, h, _ => ⟨[], sw, rfl, rfl, rfl, h⟩
  | _ + 1, [], _, _, hn => absurd hn (Nat.not_succ_le_zero _)
  | n + 1, v :: vs, _, ⟨w, ws', rfl, ha, hb⟩, hn => by
    obtain ⟨As, rest, rfl, h2, h4, h5⟩ := mi_splitS n hb (Nat.le_of_succ_le_succ hn)
    refine ⟨As ++ [w], rest, by simp, by simp [h2], ?_, h5⟩
    have e : ((v :: vs).take (n + 1)).reverse = (vs.take n).reverse ++ [v] := by simp
    rw [e]
    exact mi_rl_app h4 ⟨w, [], rfl, ha, rfl⟩
theorem mi_args_r {ad : List Nat} {cn : Nat → Nat} : ∀ {a c : List Value} (i : Nat), mi_rl ad cn a c → mi_rn ad cn (lv_args i a) (lv_args i c)
  | [], _, _, h => by
    have h' : _ = [] := h
    subst h'
    exact rfl
  | v :: r, _, i, ⟨w, ws', rfl, ha, hb⟩ => by
    refine ⟨w, _, rfl, ha, ?_⟩
    rw [mi_rv_cat ha]
    exact mi_args_r _ hb
theorem mi_sl_len : ∀ (vs : List Value), (lg_sl vs).length = (vs.map fun v => v.category).sum
  | [] => rfl
  | v :: vs => by
    have ih := mi_sl_len vs
    unfold lg_sl at ih ⊢
    rw [List.flatMap_cons, List.length_append, ih, List.map_cons, List.sum_cons]
    rcases lv_cat v with hc | hc <;> simp [hc]
/-- an answer, there and here -/
def mi_rvo (ad : List Nat) (cn : Nat → Nat) : Option Value → Option Value → Prop
  | none, w => w = none
  | some v, w => ∃ x, w = some x ∧ mi_rv ad cn v x
theorem mi_rvo_st {ad : List Nat} {cn : Nat → Nat} {v w : Option Value} {r rw' : List Value} (h : mi_rvo ad cn v w) (hr : mi_rl ad cn r rw') : mi_rl ad cn (v.toList ++ r) (w.toList ++ rw') := by
  cases v with
  | none =>
    have h' : w = none := h
    subst h'
    exact hr
  | some v =>
    obtain ⟨x, rfl, hx⟩ := h
    exact ⟨x, _, rfl, hx, hr⟩
def mi_Af (ad : List Nat) (sz : Nat) : Nat → Prop := fun q => q ∈ ad ∨ sz ≤ q
def mi_Pc (X : mi_X) (cn : Nat → Nat) (ids : Nat → ClassId) (D : va_G) (sz0 : Nat) (ad : List Nat) (h : mi_H) (sz : Nat) (aw : List Value) : Array Value → State → Prop := va_Pc aw (fun U => U.heap.size = sz ∧ sz0 ≤ sz ∧ (∀ a ∈ ad, sz0 ≤ a) ∧ mi_Gl X cn ids D sz0 U ∧ mi_Wc D ids cn ad h U.heap)
def mi_Qn (cn : Nat → Nat) (ids : Nat → ClassId) (D : va_G) (ad : List Nat) (sz : Nat) (v : Option Value) (h' : mi_H) : Array Value → State → Outcome → State → Prop := fun _ st oc t => (∃ (ad' : List Nat) (w : Option Value), mi_le ad ad' ∧ oc = .returned w ∧ mi_rvo ad' cn v w ∧ mi_Wc D ids cn ad' h' t.heap ∧ ∀ a ∈ ad', mi_Af ad sz a) ∧ va_F (mi_Af ad sz) st t
def mi_Qx (cn : Nat → Nat) (ids : Nat → ClassId) (D : va_G) (ad : List Nat) (sz : Nat) (x : Nat) (h' : mi_H) : String → State → State → Prop := fun E st t => E = mi_xn x ∧ (∃ ad' : List Nat, mi_le ad ad' ∧ mi_Wc D ids cn ad' h' t.heap ∧ ∀ a ∈ ad', mi_Af ad sz a) ∧ va_F (mi_Af ad sz) st t
def mi_Ws (M : mi_M) : List Cond := mi_hw M :: mi_need
theorem mi_Pc_blind {X : mi_X} {cn : Nat → Nat} {ids : Nat → ClassId} {D : va_G} {sz0 : Nat} {ad : List Nat} {h : mi_H} {sz : Nat} {aw : List Value} : FrameBlind (mi_Pc X cn ids D sz0 ad h sz aw) := fun _ _ _ _ hp => ⟨hp.1, hp.2.1, hp.2.2.1, hp.2.2.2.1, mi_Gl_call hp.2.2.2.2.1, hp.2.2.2.2.2⟩
theorem mi_gW {M : mi_M} (h : M ∈ mi_mt) : GoodIn mi_need (mi_Ws M) := fun w hw => by
  rcases List.mem_cons.mp hw with rfl | hw
  · have := mi_in1 h (List.mem_cons_self (a := mi_hw M))
    exact ⟨this, (mi_gn _ this).2⟩
  · exact mi_gself w hw
section MIC
variable {p : Program} {l : Launch} {e : Env} {R : Room} {s : State} {m : MethodId} {args : Array Value} {below : List Frame} {meth : Method} {c : Code} {H : Heap} {locs : List Loc} {cells slots : Nat} {Q : State → Prop}
variable {pc pc' c' s' d sz0 : Nat} {st st' : List Value} {h h' : mi_H} {ad : List Nat} {cn : Nat → Nat} {ids : Nat → ClassId} {D : va_G} {A : Nat → Prop} {sw : List Value} {ls : Array Slot} {X : mi_X} {M : mi_M}
/-- a method's end, where a contract is owed -/
theorem mi_retQ_ok (F : mi_Fr p l R s m args meth c M d X cn ids D A sz0) {i : Instr} {v : Option Value} (hd : decode (mi_bt M) pc = .ok (i, 1)) (hv : mi_ret M i st = some v) (hs : mi_rl ad cn st sw) {Qc : Array Value → State → Outcome → State → Prop} {free : Addr → Prop}
    (hq : ∀ (w : Option Value) (t : State), mi_rvo ad cn v w → t.heap = H → s.WarmedH t.vm → Qc args s (.returned w) t) (hf : ∀ z ∈ locs, free z.base) : W p l e R s m args below meth c H locs cells slots (MQ below Qc args s cells slots free) (F0 m pc ls sw) := by
  obtain ⟨⟨hx, hb, hr, -, hlocks, -⟩, -⟩ := F
  unfold mi_ret at hv
  split at hv
  next =>
    split at hv
    next ht =>
      cases hv
      have hs' : sw = [] := hs
      subst hs'
      exact W.vret hx hb (hr.trans ht) (fun t ht hW => hq none t rfl ht hW) hf hd hlocks
    next => cases hv
  next x =>
    split at hv
    next ty ht =>
      split at hv
      next hc =>
        cases hv
        simp only [Bool.and_eq_true, decide_eq_true_eq] at hc
        obtain ⟨w, rfl, hs'⟩ := mi_rl_i hs
        have hs'' : w = [] := hs'
        subst hs''
        exact W.zret hx hb (hr.trans ht) hc.1 (fun t ht hW => hq _ t ⟨_, rfl, rfl⟩ ht hW) hf hd hlocks
      next => cases hv
    next => cases hv
  next x =>
    split at hv
    next ht =>
      cases hv
      obtain ⟨w, rfl, hs'⟩ := mi_rl_l hs
      have hs'' : w = [] := hs'
      subst hs''
      exact W.lret hx hb (hr.trans ht) (fun t ht hW => hq _ t ⟨_, rfl, rfl⟩ ht hW) hf hd hlocks
    next => cases hv
  next x =>
    split at hv
    next ht =>
      cases hv
      obtain ⟨w, rfl, hs'⟩ := mi_rl_d hs
      have hs'' : w = [] := hs'
      subst hs''
      exact W.dret hx hb (hr.trans ht) (fun t ht hW => hq _ t ⟨_, rfl, rfl⟩ ht hW) hf hd hlocks
    next => cases hv
  next => cases hv
theorem mi_ml_in {o idx k : Nat} {M' : mi_M} (ho : o < mi_no) (hf : mi_lk (mi_ml o) idx = some k) (hM' : mi_mt[k]? = some M') : Cond.methodLink (mi_on o) idx (mi_y M') ∈ mi_need := by
  have h1 : mi_mlw o (idx, k) ∈ mi_need := mi_in2 ho (List.mem_append_right _ (List.mem_append_left _ (List.mem_map.mpr ⟨_, mi_lk_mem hf, rfl⟩)))
  have hk : k < mi_mt.length := (List.getElem?_eq_some_iff.mp hM').1
  have hl : mi_mt.length < 1000000 := by decide +kernel
  unfold mi_mlw at h1
  rw [if_neg (show ¬ ((idx, k) : Nat × Nat).2 = 1000000 by show ¬ k = _; omega), if_neg (show ¬ ((idx, k) : Nat × Nat).2 = 1000001 by show ¬ k = _; omega), if_neg (show ¬ ((idx, k) : Nat × Nat).2 = 1000002 by show ¬ k = _; omega), if_neg (show ¬ ((idx, k) : Nat × Nat).2 = 1000003 by show ¬ k = _; omega), show mi_mt[((idx, k) : Nat × Nat).2]? = some M' from hM'] at h1
  exact h1
theorem mi_nm_in {o idx k : Nat} {M' : mi_M} (ho : o < mi_no) (hf : mi_lk (mi_nm o) idx = some k) (hM' : mi_mt[k]? = some M') : Cond.methodLinkNest (mi_on o) idx (mi_y M') "TypeLoom" ∈ mi_bad := by
  have h1 : mi_nmw o (idx, k) ∈ mi_bad := List.mem_append_left _ (List.mem_flatMap.mpr ⟨o, List.mem_range.mpr ho, List.mem_append_right _ (List.mem_map.mpr ⟨_, mi_lk_mem hf, rfl⟩)⟩)
  unfold mi_nmw at h1
  rw [show mi_mt[((idx, k) : Nat × Nat).2]? = some M' from hM'] at h1
  exact h1
/-- the three calls that need no walk -/
theorem mi_easy_ok (hM : mi_mok M = true) (F : mi_Fr p l R s m args meth c M (d + 1) X cn ids D A sz0) {i : Instr} (hd : decode (mi_bt M) pc = .ok (i, 3)) (hls : ls.size = mi_nL M) (hRc : cells ≤ R.cells) (hRs : slots ≤ R.slots) (hh : mi_easy M i st = some st')
    (hw : mi_Wd D ids cn A s ad h H locs) (hs : mi_rl ad cn st sw) (kk : mi_KH p l e R s m args below meth c Q D ids cn A ls ad (pc + 3) st' h cells slots) : W p l e R s m args below meth c H locs cells slots Q (F0 m pc ls sw) := by
  obtain ⟨⟨hx, hb, -, hml, -, -, -, hown⟩, hts, -, -, -, -, hRf, hRl, -⟩ := F
  have ho := (mi_mok_spec hM).2.2.2.2.2.1
  have lnk : ∀ {idx k : Nat}, mi_lk (mi_ml (mi_ow M)) idx = some k → mi_mlw (mi_ow M) (idx, k) ∈ mi_need := fun hf => mi_in2 ho (List.mem_append_right _ (List.mem_append_left _ (List.mem_map.mpr ⟨_, mi_lk_mem hf, rfl⟩)))
  unfold mi_easy at hh
  split at hh
  next idx k r =>
    split at hh
    next hc =>
      cases hh
      obtain ⟨_, rw', rfl, ⟨a, ha, rfl⟩, hr⟩ := hs
      have h1 : (Cond.methodLink (mi_on (mi_ow M)) idx objectInit).before args s = true := hts _ (lnk hc.1)
      refine W.objInit hx hb hown h1 (hts _ (mi_in3 (List.mem_of_getElem? (i := 5) rfl))) (hts _ (mi_in3 (List.mem_of_getElem? (i := 4) rfl))) rfl (by rw [hml]; exact hls) rfl hd (by omega) ?_ (kk _ _ _ _ (mi_le_rf _) hw hr)
      show 2 * 0 + _ + 12 ≤ _
      have h2 := mi_rl_cat hr
      have h3 := hc.2
      omega
    next => cases hh
  next idx y x r =>
    split at hh
    next hc =>
      obtain ⟨w, rfl, hr⟩ := mi_rl_ii hs
      have h2 := mi_rl_cat hr
      have hini : (Cond.initialized "java/lang/Math").before args s = true := hts _ (mi_in3 (List.mem_of_getElem? (i := 9) rfl))
      split at hh
      next hf =>
        cases hh
        have h1 : (Cond.methodLink (mi_on (mi_ow M)) idx Lib.Math.max.name).before args s = true := hts _ (lnk hf)
        exact va_mmax hx hb (hml.trans hls.symm) hown h1 (hts _ (mi_in3 (List.mem_of_getElem? (i := 10) rfl))) hini (hts _ (mi_in3 (List.mem_of_getElem? (i := 11) rfl))) (by omega) (by omega) hRc hRs hd (kk _ _ _ _ (mi_le_rf _) hw (mi_rl_c rfl hr))
      next hf =>
        cases hh
        have h1 : (Cond.methodLink (mi_on (mi_ow M)) idx Lib.Math.min.name).before args s = true := hts _ (lnk hf)
        exact va_mmin hx hb (hml.trans hls.symm) hown h1 (hts _ (mi_in3 (List.mem_of_getElem? (i := 12) rfl))) hini (hts _ (mi_in3 (List.mem_of_getElem? (i := 13) rfl))) (by omega) (by omega) hRc hRs hd (kk _ _ _ _ (mi_le_rf _) hw (mi_rl_c rfl hr))
      next => cases hh
    next => cases hh
  next => cases hh
/-- behind a call that returned -/
theorem mi_callm {mc ms sz : Nat} {v : Option Value} {a : Array Value} {rest : List Value} {free : Addr → Prop} (hr : va_Run p l e R s m args below meth c H locs cells slots mc ms (F0 m pc ls sw) rest (mi_Qn cn ids D ad sz v h' a) free) (hS : va_S A s.heap H locs) (hA : ∀ q, mi_Af ad sz q → A q) (hf : ∀ q, free q → A q)
    (kk : ∀ (w : Option Value) (ad' : List Nat) (H1 : Heap) (locs1 : List Loc), mi_le ad ad' → mi_rvo ad' cn v w → mi_Wd D ids cn A s ad' h' H1 locs1 → W p l e R s m args below meth c H1 locs1 (cells + mc) (slots + ms) Q (F0 m (pc + 3) ls (w.toList ++ rest))) : W p l e R s m args below meth c H locs cells slots Q (F0 m pc ls sw) := by
  intro T hT X'
  obtain ⟨v0, st₀, t, T', L, h0, X2, hL, e1, e2, ⟨⟨ad', w, hle, ho, hv, hc, hin⟩, hF⟩, st⟩ := hr T hT X'
  cases ho
  obtain ⟨k1, k2, k3⟩ := vx_keep h0 e1 hS (fun q _ hq => hA q hq) hf hL hF
  obtain ⟨t2, a1, b1⟩ := kk _ ad' T'.heap (locs ++ L) hle hv (mi_Wd_of (by rw [e1]; exact hc) (fun a ha => hA a (hin a ha)) k3) T' rfl X2
  exact ⟨t2, st t2 a1, b1⟩
end MIC
